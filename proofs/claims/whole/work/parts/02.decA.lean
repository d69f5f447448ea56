theorem d_Main_init_0 : decode b_Main_init 0 = .ok (.aload_n 0, 1) := by decide +kernel
theorem d_Main_init_1 : decode b_Main_init 1 = .ok (.invokespecial 1, 3) := by decide +kernel
theorem d_Main_init_4 : decode b_Main_init 4 = .ok (.aload_n 0, 1) := by decide +kernel
theorem d_Main_init_5 : decode b_Main_init 5 = .ok (.new 7, 3) := by decide +kernel
theorem d_Main_init_8 : decode b_Main_init 8 = .ok (.dup, 1) := by decide +kernel
theorem d_Main_init_9 : decode b_Main_init 9 = .ok (.invokespecial 9, 3) := by decide +kernel
theorem d_Main_init_12 : decode b_Main_init 12 = .ok (.putfield 10, 3) := by decide +kernel
theorem d_Main_init_15 : decode b_Main_init 15 = .ok (.aload_n 0, 1) := by decide +kernel
theorem d_Main_init_16 : decode b_Main_init 16 = .ok (.new 16, 3) := by decide +kernel
theorem d_Main_init_19 : decode b_Main_init 19 = .ok (.dup, 1) := by decide +kernel
theorem d_Main_init_20 : decode b_Main_init 20 = .ok (.invokespecial 18, 3) := by decide +kernel
theorem d_Main_init_23 : decode b_Main_init 23 = .ok (.putfield 19, 3) := by decide +kernel
theorem d_Main_init_26 : decode b_Main_init 26 = .ok (.aload_n 0, 1) := by decide +kernel
theorem d_Main_init_27 : decode b_Main_init 27 = .ok (.new 23, 3) := by decide +kernel
theorem d_Main_init_30 : decode b_Main_init 30 = .ok (.dup, 1) := by decide +kernel
theorem d_Main_init_31 : decode b_Main_init 31 = .ok (.invokespecial 25, 3) := by decide +kernel
theorem d_Main_init_34 : decode b_Main_init 34 = .ok (.putfield 26, 3) := by decide +kernel
theorem d_Main_init_37 : decode b_Main_init 37 = .ok (.aload_n 0, 1) := by decide +kernel
theorem d_Main_init_38 : decode b_Main_init 38 = .ok (.new 30, 3) := by decide +kernel
theorem d_Main_init_41 : decode b_Main_init 41 = .ok (.dup, 1) := by decide +kernel
theorem d_Main_init_42 : decode b_Main_init 42 = .ok (.invokespecial 32, 3) := by decide +kernel
theorem d_Main_init_45 : decode b_Main_init 45 = .ok (.putfield 33, 3) := by decide +kernel
theorem d_Main_init_48 : decode b_Main_init 48 = .ok (.aload_n 0, 1) := by decide +kernel
theorem d_Main_init_49 : decode b_Main_init 49 = .ok (.new 30, 3) := by decide +kernel
theorem d_Main_init_52 : decode b_Main_init 52 = .ok (.dup, 1) := by decide +kernel
theorem d_Main_init_53 : decode b_Main_init 53 = .ok (.invokespecial 32, 3) := by decide +kernel
theorem d_Main_init_56 : decode b_Main_init 56 = .ok (.putfield 37, 3) := by decide +kernel
theorem d_Main_init_59 : decode b_Main_init 59 = .ok (.aload_n 0, 1) := by decide +kernel
theorem d_Main_init_60 : decode b_Main_init 60 = .ok (.getfield 26, 3) := by decide +kernel
theorem d_Main_init_63 : decode b_Main_init 63 = .ok (.aload_n 0, 1) := by decide +kernel
theorem d_Main_init_64 : decode b_Main_init 64 = .ok (.getfield 19, 3) := by decide +kernel
theorem d_Main_init_67 : decode b_Main_init 67 = .ok (.invokevirtual 40, 3) := by decide +kernel
theorem d_Main_init_70 : decode b_Main_init 70 = .ok (.return_, 1) := by decide +kernel
theorem d_Pad_init_0 : decode b_Pad_init 0 = .ok (.aload_n 0, 1) := by decide +kernel
theorem d_Pad_init_1 : decode b_Pad_init 1 = .ok (.invokespecial 3, 3) := by decide +kernel
theorem d_Pad_init_4 : decode b_Pad_init 4 = .ok (.aload_n 0, 1) := by decide +kernel
theorem d_Pad_init_5 : decode b_Pad_init 5 = .ok (.new 9, 3) := by decide +kernel
theorem d_Pad_init_8 : decode b_Pad_init 8 = .ok (.dup, 1) := by decide +kernel
theorem d_Pad_init_9 : decode b_Pad_init 9 = .ok (.bipush 60, 2) := by decide +kernel
theorem d_Pad_init_11 : decode b_Pad_init 11 = .ok (.invokespecial 11, 3) := by decide +kernel
theorem d_Pad_init_14 : decode b_Pad_init 14 = .ok (.putfield 14, 3) := by decide +kernel
theorem d_Pad_init_17 : decode b_Pad_init 17 = .ok (.return_, 1) := by decide +kernel
theorem d_Row_init_0 : decode b_Row_init 0 = .ok (.aload_n 0, 1) := by decide +kernel
theorem d_Row_init_1 : decode b_Row_init 1 = .ok (.invokespecial 1, 3) := by decide +kernel
theorem d_Row_init_4 : decode b_Row_init 4 = .ok (.aload_n 0, 1) := by decide +kernel
theorem d_Row_init_5 : decode b_Row_init 5 = .ok (.iload_n 1, 1) := by decide +kernel
theorem d_Row_init_6 : decode b_Row_init 6 = .ok (.iconst 0, 1) := by decide +kernel
theorem d_Row_init_7 : decode b_Row_init 7 = .ok (.invokestatic 7, 3) := by decide +kernel
theorem d_Row_init_10 : decode b_Row_init 10 = .ok (.newarray .int, 2) := by decide +kernel
theorem d_Row_init_12 : decode b_Row_init 12 = .ok (.putfield 13, 3) := by decide +kernel
theorem d_Row_init_15 : decode b_Row_init 15 = .ok (.return_, 1) := by decide +kernel
theorem d_Play_init_0 : decode b_Play_init 0 = .ok (.aload_n 0, 1) := by decide +kernel
theorem d_Play_init_1 : decode b_Play_init 1 = .ok (.invokespecial 3, 3) := by decide +kernel
theorem d_Play_init_4 : decode b_Play_init 4 = .ok (.aload_n 0, 1) := by decide +kernel
theorem d_Play_init_5 : decode b_Play_init 5 = .ok (.new 9, 3) := by decide +kernel
theorem d_Play_init_8 : decode b_Play_init 8 = .ok (.dup, 1) := by decide +kernel
theorem d_Play_init_9 : decode b_Play_init 9 = .ok (.bipush 6, 2) := by decide +kernel
theorem d_Play_init_11 : decode b_Play_init 11 = .ok (.invokespecial 11, 3) := by decide +kernel
theorem d_Play_init_14 : decode b_Play_init 14 = .ok (.putfield 14, 3) := by decide +kernel
theorem d_Play_init_17 : decode b_Play_init 17 = .ok (.aload_n 0, 1) := by decide +kernel
theorem d_Play_init_18 : decode b_Play_init 18 = .ok (.new 9, 3) := by decide +kernel
theorem d_Play_init_21 : decode b_Play_init 21 = .ok (.dup, 1) := by decide +kernel
theorem d_Play_init_22 : decode b_Play_init 22 = .ok (.bipush 9, 2) := by decide +kernel
theorem d_Play_init_24 : decode b_Play_init 24 = .ok (.invokespecial 11, 3) := by decide +kernel
theorem d_Play_init_27 : decode b_Play_init 27 = .ok (.putfield 20, 3) := by decide +kernel
theorem d_Play_init_30 : decode b_Play_init 30 = .ok (.aload_n 0, 1) := by decide +kernel
theorem d_Play_init_31 : decode b_Play_init 31 = .ok (.new 9, 3) := by decide +kernel
theorem d_Play_init_34 : decode b_Play_init 34 = .ok (.dup, 1) := by decide +kernel
theorem d_Play_init_35 : decode b_Play_init 35 = .ok (.bipush 6, 2) := by decide +kernel
theorem d_Play_init_37 : decode b_Play_init 37 = .ok (.invokespecial 11, 3) := by decide +kernel
theorem d_Play_init_40 : decode b_Play_init 40 = .ok (.putfield 23, 3) := by decide +kernel
theorem d_Play_init_43 : decode b_Play_init 43 = .ok (.aload_n 0, 1) := by decide +kernel
theorem d_Play_init_44 : decode b_Play_init 44 = .ok (.new 9, 3) := by decide +kernel
theorem d_Play_init_47 : decode b_Play_init 47 = .ok (.dup, 1) := by decide +kernel
theorem d_Play_init_48 : decode b_Play_init 48 = .ok (.bipush 6, 2) := by decide +kernel
theorem d_Play_init_50 : decode b_Play_init 50 = .ok (.invokespecial 11, 3) := by decide +kernel
theorem d_Play_init_53 : decode b_Play_init 53 = .ok (.putfield 26, 3) := by decide +kernel
theorem d_Play_init_56 : decode b_Play_init 56 = .ok (.aload_n 0, 1) := by decide +kernel
theorem d_Play_init_57 : decode b_Play_init 57 = .ok (.new 9, 3) := by decide +kernel
theorem d_Play_init_60 : decode b_Play_init 60 = .ok (.dup, 1) := by decide +kernel
theorem d_Play_init_61 : decode b_Play_init 61 = .ok (.bipush 6, 2) := by decide +kernel
theorem d_Play_init_63 : decode b_Play_init 63 = .ok (.invokespecial 11, 3) := by decide +kernel
theorem d_Play_init_66 : decode b_Play_init 66 = .ok (.putfield 29, 3) := by decide +kernel
theorem d_Play_init_69 : decode b_Play_init 69 = .ok (.aload_n 0, 1) := by decide +kernel
theorem d_Play_init_70 : decode b_Play_init 70 = .ok (.bipush 7, 2) := by decide +kernel
theorem d_Play_init_72 : decode b_Play_init 72 = .ok (.iconst 3, 1) := by decide +kernel
theorem d_Play_init_73 : decode b_Play_init 73 = .ok (.iconst 3, 1) := by decide +kernel
theorem d_Play_init_74 : decode b_Play_init 74 = .ok (.iconst 2, 1) := by decide +kernel
theorem d_Play_init_75 : decode b_Play_init 75 = .ok (.invokevirtual 32, 3) := by decide +kernel
theorem d_Play_init_78 : decode b_Play_init 78 = .ok (.return_, 1) := by decide +kernel
theorem d_Play_begin_0 : decode b_Play_begin 0 = .ok (.aload_n 0, 1) := by decide +kernel
theorem d_Play_begin_1 : decode b_Play_begin 1 = .ok (.iload_n 1, 1) := by decide +kernel
theorem d_Play_begin_2 : decode b_Play_begin 2 = .ok (.putfield 36, 3) := by decide +kernel
theorem d_Play_begin_5 : decode b_Play_begin 5 = .ok (.aload_n 0, 1) := by decide +kernel
theorem d_Play_begin_6 : decode b_Play_begin 6 = .ok (.iload_n 2, 1) := by decide +kernel
theorem d_Play_begin_7 : decode b_Play_begin 7 = .ok (.putfield 40, 3) := by decide +kernel
theorem d_Play_begin_10 : decode b_Play_begin 10 = .ok (.aload_n 0, 1) := by decide +kernel
theorem d_Play_begin_11 : decode b_Play_begin 11 = .ok (.iload_n 3, 1) := by decide +kernel
theorem d_Play_begin_12 : decode b_Play_begin 12 = .ok (.putfield 43, 3) := by decide +kernel
theorem d_Play_begin_15 : decode b_Play_begin 15 = .ok (.aload_n 0, 1) := by decide +kernel
theorem d_Play_begin_16 : decode b_Play_begin 16 = .ok (.iload 4, 2) := by decide +kernel
theorem d_Play_begin_18 : decode b_Play_begin 18 = .ok (.putfield 46, 3) := by decide +kernel
theorem d_Play_begin_21 : decode b_Play_begin 21 = .ok (.aload_n 0, 1) := by decide +kernel
theorem d_Play_begin_22 : decode b_Play_begin 22 = .ok (.iconst 0, 1) := by decide +kernel
theorem d_Play_begin_23 : decode b_Play_begin 23 = .ok (.putfield 49, 3) := by decide +kernel
theorem d_Play_begin_26 : decode b_Play_begin 26 = .ok (.aload_n 0, 1) := by decide +kernel
theorem d_Play_begin_27 : decode b_Play_begin 27 = .ok (.invokevirtual 52, 3) := by decide +kernel
theorem d_Play_begin_30 : decode b_Play_begin 30 = .ok (.return_, 1) := by decide +kernel
theorem d_Play_dropTickets_0 : decode b_Play_dropTickets 0 = .ok (.aload_n 0, 1) := by decide +kernel
theorem d_Play_dropTickets_1 : decode b_Play_dropTickets 1 = .ok (.iconst 0, 1) := by decide +kernel
theorem d_Play_dropTickets_2 : decode b_Play_dropTickets 2 = .ok (.putfield 55, 3) := by decide +kernel
theorem d_Play_dropTickets_5 : decode b_Play_dropTickets 5 = .ok (.aload_n 0, 1) := by decide +kernel
theorem d_Play_dropTickets_6 : decode b_Play_dropTickets 6 = .ok (.iconst 0, 1) := by decide +kernel
theorem d_Play_dropTickets_7 : decode b_Play_dropTickets 7 = .ok (.putfield 58, 3) := by decide +kernel
theorem d_Play_dropTickets_10 : decode b_Play_dropTickets 10 = .ok (.return_, 1) := by decide +kernel
theorem d_Wheel_init_0 : decode b_Wheel_init 0 = .ok (.aload_n 0, 1) := by decide +kernel
theorem d_Wheel_init_1 : decode b_Wheel_init 1 = .ok (.invokespecial 3, 3) := by decide +kernel
theorem d_Wheel_init_4 : decode b_Wheel_init 4 = .ok (.aload_n 0, 1) := by decide +kernel
theorem d_Wheel_init_5 : decode b_Wheel_init 5 = .ok (.new 9, 3) := by decide +kernel
theorem d_Wheel_init_8 : decode b_Wheel_init 8 = .ok (.dup, 1) := by decide +kernel
theorem d_Wheel_init_9 : decode b_Wheel_init 9 = .ok (.invokespecial 11, 3) := by decide +kernel
theorem d_Wheel_init_12 : decode b_Wheel_init 12 = .ok (.putfield 12, 3) := by decide +kernel
theorem d_Wheel_init_15 : decode b_Wheel_init 15 = .ok (.aload_n 0, 1) := by decide +kernel
theorem d_Wheel_init_16 : decode b_Wheel_init 16 = .ok (.new 9, 3) := by decide +kernel
theorem d_Wheel_init_19 : decode b_Wheel_init 19 = .ok (.dup, 1) := by decide +kernel
theorem d_Wheel_init_20 : decode b_Wheel_init 20 = .ok (.invokespecial 11, 3) := by decide +kernel
theorem d_Wheel_init_23 : decode b_Wheel_init 23 = .ok (.putfield 18, 3) := by decide +kernel
theorem d_Wheel_init_26 : decode b_Wheel_init 26 = .ok (.aload_n 0, 1) := by decide +kernel
theorem d_Wheel_init_27 : decode b_Wheel_init 27 = .ok (.new 21, 3) := by decide +kernel
theorem d_Wheel_init_30 : decode b_Wheel_init 30 = .ok (.dup, 1) := by decide +kernel
theorem d_Wheel_init_31 : decode b_Wheel_init 31 = .ok (.bipush 70, 2) := by decide +kernel
theorem d_Wheel_init_33 : decode b_Wheel_init 33 = .ok (.invokespecial 23, 3) := by decide +kernel
theorem d_Wheel_init_36 : decode b_Wheel_init 36 = .ok (.putfield 26, 3) := by decide +kernel
theorem d_Wheel_init_39 : decode b_Wheel_init 39 = .ok (.aload_n 0, 1) := by decide +kernel
theorem d_Wheel_init_40 : decode b_Wheel_init 40 = .ok (.new 21, 3) := by decide +kernel
theorem d_Wheel_init_43 : decode b_Wheel_init 43 = .ok (.dup, 1) := by decide +kernel
theorem d_Wheel_init_44 : decode b_Wheel_init 44 = .ok (.bipush 6, 2) := by decide +kernel
theorem d_Wheel_init_46 : decode b_Wheel_init 46 = .ok (.invokespecial 23, 3) := by decide +kernel
theorem d_Wheel_init_49 : decode b_Wheel_init 49 = .ok (.putfield 30, 3) := by decide +kernel
theorem d_Wheel_init_52 : decode b_Wheel_init 52 = .ok (.aload_n 0, 1) := by decide +kernel
theorem d_Wheel_init_53 : decode b_Wheel_init 53 = .ok (.new 21, 3) := by decide +kernel
theorem d_Wheel_init_56 : decode b_Wheel_init 56 = .ok (.dup, 1) := by decide +kernel
theorem d_Wheel_init_57 : decode b_Wheel_init 57 = .ok (.iconst 2, 1) := by decide +kernel
theorem d_Wheel_init_58 : decode b_Wheel_init 58 = .ok (.invokespecial 23, 3) := by decide +kernel
theorem d_Wheel_init_61 : decode b_Wheel_init 61 = .ok (.putfield 33, 3) := by decide +kernel
theorem d_Wheel_init_64 : decode b_Wheel_init 64 = .ok (.aload_n 0, 1) := by decide +kernel
theorem d_Wheel_init_65 : decode b_Wheel_init 65 = .ok (.new 36, 3) := by decide +kernel
theorem d_Wheel_init_68 : decode b_Wheel_init 68 = .ok (.dup, 1) := by decide +kernel
theorem d_Wheel_init_69 : decode b_Wheel_init 69 = .ok (.aload_n 0, 1) := by decide +kernel
theorem d_Wheel_init_70 : decode b_Wheel_init 70 = .ok (.getfield 18, 3) := by decide +kernel
theorem d_Wheel_init_73 : decode b_Wheel_init 73 = .ok (.aload_n 0, 1) := by decide +kernel
theorem d_Wheel_init_74 : decode b_Wheel_init 74 = .ok (.getfield 26, 3) := by decide +kernel
theorem d_Wheel_init_77 : decode b_Wheel_init 77 = .ok (.invokespecial 38, 3) := by decide +kernel
theorem d_Wheel_init_80 : decode b_Wheel_init 80 = .ok (.putfield 41, 3) := by decide +kernel
theorem d_Wheel_init_83 : decode b_Wheel_init 83 = .ok (.return_, 1) := by decide +kernel
theorem d_Sets_init_0 : decode b_Sets_init 0 = .ok (.aload_n 0, 1) := by decide +kernel
theorem d_Sets_init_1 : decode b_Sets_init 1 = .ok (.invokespecial 3, 3) := by decide +kernel
theorem d_Sets_init_4 : decode b_Sets_init 4 = .ok (.aload_n 0, 1) := by decide +kernel
theorem d_Sets_init_5 : decode b_Sets_init 5 = .ok (.new 9, 3) := by decide +kernel
theorem d_Sets_init_8 : decode b_Sets_init 8 = .ok (.dup, 1) := by decide +kernel
theorem d_Sets_init_9 : decode b_Sets_init 9 = .ok (.bipush 70, 2) := by decide +kernel
theorem d_Sets_init_11 : decode b_Sets_init 11 = .ok (.invokespecial 11, 3) := by decide +kernel
theorem d_Sets_init_14 : decode b_Sets_init 14 = .ok (.putfield 14, 3) := by decide +kernel
theorem d_Sets_init_17 : decode b_Sets_init 17 = .ok (.return_, 1) := by decide +kernel
theorem d_DrawSets_init_0 : decode b_DrawSets_init 0 = .ok (.aload_n 0, 1) := by decide +kernel
theorem d_DrawSets_init_1 : decode b_DrawSets_init 1 = .ok (.invokespecial 1, 3) := by decide +kernel
theorem d_DrawSets_init_4 : decode b_DrawSets_init 4 = .ok (.aload_n 0, 1) := by decide +kernel
theorem d_DrawSets_init_5 : decode b_DrawSets_init 5 = .ok (.iload_n 1, 1) := by decide +kernel
theorem d_DrawSets_init_6 : decode b_DrawSets_init 6 = .ok (.iconst 0, 1) := by decide +kernel
theorem d_DrawSets_init_7 : decode b_DrawSets_init 7 = .ok (.invokestatic 7, 3) := by decide +kernel
theorem d_DrawSets_init_10 : decode b_DrawSets_init 10 = .ok (.newarray .long, 2) := by decide +kernel
theorem d_DrawSets_init_12 : decode b_DrawSets_init 12 = .ok (.putfield 13, 3) := by decide +kernel
theorem d_DrawSets_init_15 : decode b_DrawSets_init 15 = .ok (.aload_n 0, 1) := by decide +kernel
theorem d_DrawSets_init_16 : decode b_DrawSets_init 16 = .ok (.iload_n 1, 1) := by decide +kernel
theorem d_DrawSets_init_17 : decode b_DrawSets_init 17 = .ok (.iconst 0, 1) := by decide +kernel
theorem d_DrawSets_init_18 : decode b_DrawSets_init 18 = .ok (.invokestatic 7, 3) := by decide +kernel
theorem d_DrawSets_init_21 : decode b_DrawSets_init 21 = .ok (.newarray .long, 2) := by decide +kernel
theorem d_DrawSets_init_23 : decode b_DrawSets_init 23 = .ok (.putfield 19, 3) := by decide +kernel
theorem d_DrawSets_init_26 : decode b_DrawSets_init 26 = .ok (.return_, 1) := by decide +kernel
theorem d_Search_init_0 : decode b_Search_init 0 = .ok (.aload_n 0, 1) := by decide +kernel
theorem d_Search_init_1 : decode b_Search_init 1 = .ok (.invokespecial 3, 3) := by decide +kernel
theorem d_Search_init_4 : decode b_Search_init 4 = .ok (.aload_n 0, 1) := by decide +kernel
theorem d_Search_init_5 : decode b_Search_init 5 = .ok (.new 9, 3) := by decide +kernel
theorem d_Search_init_8 : decode b_Search_init 8 = .ok (.dup, 1) := by decide +kernel
theorem d_Search_init_9 : decode b_Search_init 9 = .ok (.iconst 5, 1) := by decide +kernel
theorem d_Search_init_10 : decode b_Search_init 10 = .ok (.invokespecial 11, 3) := by decide +kernel
theorem d_Search_init_13 : decode b_Search_init 13 = .ok (.putfield 14, 3) := by decide +kernel
theorem d_Search_init_16 : decode b_Search_init 16 = .ok (.aload_n 0, 1) := by decide +kernel
theorem d_Search_init_17 : decode b_Search_init 17 = .ok (.new 20, 3) := by decide +kernel
theorem d_Search_init_20 : decode b_Search_init 20 = .ok (.dup, 1) := by decide +kernel
theorem d_Search_init_21 : decode b_Search_init 21 = .ok (.iconst 4, 1) := by decide +kernel
theorem d_Search_init_22 : decode b_Search_init 22 = .ok (.invokespecial 22, 3) := by decide +kernel
theorem d_Search_init_25 : decode b_Search_init 25 = .ok (.putfield 23, 3) := by decide +kernel
theorem d_Search_init_28 : decode b_Search_init 28 = .ok (.aload_n 0, 1) := by decide +kernel
theorem d_Search_init_29 : decode b_Search_init 29 = .ok (.new 27, 3) := by decide +kernel
theorem d_Search_init_32 : decode b_Search_init 32 = .ok (.dup, 1) := by decide +kernel
theorem d_Search_init_33 : decode b_Search_init 33 = .ok (.invokespecial 29, 3) := by decide +kernel
theorem d_Search_init_36 : decode b_Search_init 36 = .ok (.putfield 30, 3) := by decide +kernel
theorem d_Search_init_39 : decode b_Search_init 39 = .ok (.aload_n 0, 1) := by decide +kernel
theorem d_Search_init_40 : decode b_Search_init 40 = .ok (.new 27, 3) := by decide +kernel
theorem d_Search_init_43 : decode b_Search_init 43 = .ok (.dup, 1) := by decide +kernel
theorem d_Search_init_44 : decode b_Search_init 44 = .ok (.invokespecial 29, 3) := by decide +kernel
theorem d_Search_init_47 : decode b_Search_init 47 = .ok (.putfield 34, 3) := by decide +kernel
theorem d_Search_init_50 : decode b_Search_init 50 = .ok (.aload_n 0, 1) := by decide +kernel
theorem d_Search_init_51 : decode b_Search_init 51 = .ok (.new 27, 3) := by decide +kernel
theorem d_Search_init_54 : decode b_Search_init 54 = .ok (.dup, 1) := by decide +kernel
theorem d_Search_init_55 : decode b_Search_init 55 = .ok (.invokespecial 29, 3) := by decide +kernel
theorem d_Search_init_58 : decode b_Search_init 58 = .ok (.putfield 37, 3) := by decide +kernel
theorem d_Search_init_61 : decode b_Search_init 61 = .ok (.aload_n 0, 1) := by decide +kernel
theorem d_Search_init_62 : decode b_Search_init 62 = .ok (.new 27, 3) := by decide +kernel
theorem d_Search_init_65 : decode b_Search_init 65 = .ok (.dup, 1) := by decide +kernel
theorem d_Search_init_66 : decode b_Search_init 66 = .ok (.invokespecial 29, 3) := by decide +kernel
theorem d_Search_init_69 : decode b_Search_init 69 = .ok (.putfield 40, 3) := by decide +kernel
theorem d_Search_init_72 : decode b_Search_init 72 = .ok (.aload_n 0, 1) := by decide +kernel
theorem d_Search_init_73 : decode b_Search_init 73 = .ok (.aload_n 1, 1) := by decide +kernel
theorem d_Search_init_74 : decode b_Search_init 74 = .ok (.putfield 43, 3) := by decide +kernel
theorem d_Search_init_77 : decode b_Search_init 77 = .ok (.aload_n 0, 1) := by decide +kernel
theorem d_Search_init_78 : decode b_Search_init 78 = .ok (.aload_n 2, 1) := by decide +kernel
theorem d_Search_init_79 : decode b_Search_init 79 = .ok (.putfield 47, 3) := by decide +kernel
theorem d_Search_init_82 : decode b_Search_init 82 = .ok (.return_, 1) := by decide +kernel
theorem d_Choice_init_0 : decode b_Choice_init 0 = .ok (.aload_n 0, 1) := by decide +kernel
theorem d_Choice_init_1 : decode b_Choice_init 1 = .ok (.invokespecial 3, 3) := by decide +kernel
theorem d_Choice_init_4 : decode b_Choice_init 4 = .ok (.aload_n 0, 1) := by decide +kernel
theorem d_Choice_init_5 : decode b_Choice_init 5 = .ok (.new 9, 3) := by decide +kernel
theorem d_Choice_init_8 : decode b_Choice_init 8 = .ok (.dup, 1) := by decide +kernel
theorem d_Choice_init_9 : decode b_Choice_init 9 = .ok (.iconst 4, 1) := by decide +kernel
theorem d_Choice_init_10 : decode b_Choice_init 10 = .ok (.invokespecial 11, 3) := by decide +kernel
theorem d_Choice_init_13 : decode b_Choice_init 13 = .ok (.putfield 14, 3) := by decide +kernel
theorem d_Choice_init_16 : decode b_Choice_init 16 = .ok (.return_, 1) := by decide +kernel
theorem d_Image_init_0 : decode b_Image_init 0 = .ok (.aload_n 0, 1) := by decide +kernel
theorem d_Image_init_1 : decode b_Image_init 1 = .ok (.invokespecial 1, 3) := by decide +kernel
theorem d_Image_init_4 : decode b_Image_init 4 = .ok (.aload_n 0, 1) := by decide +kernel
theorem d_Image_init_5 : decode b_Image_init 5 = .ok (.new 7, 3) := by decide +kernel
theorem d_Image_init_8 : decode b_Image_init 8 = .ok (.dup, 1) := by decide +kernel
theorem d_Image_init_9 : decode b_Image_init 9 = .ok (.invokespecial 9, 3) := by decide +kernel
theorem d_Image_init_12 : decode b_Image_init 12 = .ok (.putfield 10, 3) := by decide +kernel
theorem d_Image_init_15 : decode b_Image_init 15 = .ok (.return_, 1) := by decide +kernel
theorem d_Wheel_takeGame_0 : decode b_Wheel_takeGame 0 = .ok (.aload_n 0, 1) := by decide +kernel
theorem d_Wheel_takeGame_1 : decode b_Wheel_takeGame 1 = .ok (.getfield 12, 3) := by decide +kernel
theorem d_Wheel_takeGame_4 : decode b_Wheel_takeGame 4 = .ok (.aload_n 1, 1) := by decide +kernel
theorem d_Wheel_takeGame_5 : decode b_Wheel_takeGame 5 = .ok (.getfield 45, 3) := by decide +kernel
theorem d_Wheel_takeGame_8 : decode b_Wheel_takeGame 8 = .ok (.aload_n 1, 1) := by decide +kernel
theorem d_Wheel_takeGame_9 : decode b_Wheel_takeGame 9 = .ok (.getfield 51, 3) := by decide +kernel
theorem d_Wheel_takeGame_12 : decode b_Wheel_takeGame 12 = .ok (.iconst 0, 1) := by decide +kernel
theorem d_Wheel_takeGame_13 : decode b_Wheel_takeGame 13 = .ok (.invokevirtual 54, 3) := by decide +kernel
theorem d_Wheel_takeGame_16 : decode b_Wheel_takeGame 16 = .ok (.aload_n 0, 1) := by decide +kernel
theorem d_Wheel_takeGame_17 : decode b_Wheel_takeGame 17 = .ok (.getfield 18, 3) := by decide +kernel
theorem d_Wheel_takeGame_20 : decode b_Wheel_takeGame 20 = .ok (.aload_n 1, 1) := by decide +kernel
theorem d_Wheel_takeGame_21 : decode b_Wheel_takeGame 21 = .ok (.getfield 45, 3) := by decide +kernel
theorem d_Wheel_takeGame_24 : decode b_Wheel_takeGame 24 = .ok (.aload_n 1, 1) := by decide +kernel
theorem d_Wheel_takeGame_25 : decode b_Wheel_takeGame 25 = .ok (.getfield 58, 3) := by decide +kernel
theorem d_Wheel_takeGame_28 : decode b_Wheel_takeGame 28 = .ok (.aload_n 1, 1) := by decide +kernel
theorem d_Wheel_takeGame_29 : decode b_Wheel_takeGame 29 = .ok (.getfield 61, 3) := by decide +kernel
theorem d_Wheel_takeGame_32 : decode b_Wheel_takeGame 32 = .ok (.invokevirtual 54, 3) := by decide +kernel
theorem d_Wheel_takeGame_35 : decode b_Wheel_takeGame 35 = .ok (.iconst 0, 1) := by decide +kernel
theorem d_Wheel_takeGame_36 : decode b_Wheel_takeGame 36 = .ok (.istore_n 2, 1) := by decide +kernel
theorem d_Wheel_takeGame_37 : decode b_Wheel_takeGame 37 = .ok (.iload_n 2, 1) := by decide +kernel
theorem d_Wheel_takeGame_38 : decode b_Wheel_takeGame 38 = .ok (.aload_n 0, 1) := by decide +kernel
theorem d_Wheel_takeGame_39 : decode b_Wheel_takeGame 39 = .ok (.getfield 18, 3) := by decide +kernel
theorem d_Wheel_takeGame_42 : decode b_Wheel_takeGame 42 = .ok (.invokevirtual 64, 3) := by decide +kernel
theorem d_Wheel_takeGame_45 : decode b_Wheel_takeGame 45 = .ok (.if_icmp .ge 30, 3) := by decide +kernel
theorem d_Wheel_takeGame_48 : decode b_Wheel_takeGame 48 = .ok (.aload_n 0, 1) := by decide +kernel
theorem d_Wheel_takeGame_49 : decode b_Wheel_takeGame 49 = .ok (.aload_n 0, 1) := by decide +kernel
theorem d_Wheel_takeGame_50 : decode b_Wheel_takeGame 50 = .ok (.getfield 26, 3) := by decide +kernel
theorem d_Wheel_takeGame_53 : decode b_Wheel_takeGame 53 = .ok (.iload_n 2, 1) := by decide +kernel
theorem d_Wheel_takeGame_54 : decode b_Wheel_takeGame 54 = .ok (.aload_n 0, 1) := by decide +kernel
theorem d_Wheel_takeGame_55 : decode b_Wheel_takeGame 55 = .ok (.getfield 18, 3) := by decide +kernel
theorem d_Wheel_takeGame_58 : decode b_Wheel_takeGame 58 = .ok (.iload_n 2, 1) := by decide +kernel
theorem d_Wheel_takeGame_59 : decode b_Wheel_takeGame 59 = .ok (.invokevirtual 68, 3) := by decide +kernel
theorem d_Wheel_takeGame_62 : decode b_Wheel_takeGame 62 = .ok (.aload_n 1, 1) := by decide +kernel
theorem d_Wheel_takeGame_63 : decode b_Wheel_takeGame 63 = .ok (.getfield 72, 3) := by decide +kernel
theorem d_Wheel_takeGame_66 : decode b_Wheel_takeGame 66 = .ok (.invokevirtual 75, 3) := by decide +kernel
theorem d_Wheel_takeGame_69 : decode b_Wheel_takeGame 69 = .ok (.iinc 2 1, 3) := by decide +kernel
theorem d_Wheel_takeGame_72 : decode b_Wheel_takeGame 72 = .ok (.goto (-35), 3) := by decide +kernel
theorem d_Wheel_takeGame_75 : decode b_Wheel_takeGame 75 = .ok (.aload_n 0, 1) := by decide +kernel
theorem d_Wheel_takeGame_76 : decode b_Wheel_takeGame 76 = .ok (.getfield 41, 3) := by decide +kernel
theorem d_Wheel_takeGame_79 : decode b_Wheel_takeGame 79 = .ok (.aload_n 0, 1) := by decide +kernel
theorem d_Wheel_takeGame_80 : decode b_Wheel_takeGame 80 = .ok (.getfield 12, 3) := by decide +kernel
theorem d_Wheel_takeGame_83 : decode b_Wheel_takeGame 83 = .ok (.invokevirtual 64, 3) := by decide +kernel
theorem d_Wheel_takeGame_86 : decode b_Wheel_takeGame 86 = .ok (.aload_n 0, 1) := by decide +kernel
theorem d_Wheel_takeGame_87 : decode b_Wheel_takeGame 87 = .ok (.invokevirtual 79, 3) := by decide +kernel
theorem d_Wheel_takeGame_90 : decode b_Wheel_takeGame 90 = .ok (.invokevirtual 82, 3) := by decide +kernel
theorem d_Wheel_takeGame_93 : decode b_Wheel_takeGame 93 = .ok (.return_, 1) := by decide +kernel
theorem d_Sets_fill_0 : decode b_Sets_fill 0 = .ok (.iconst 1, 1) := by decide +kernel
theorem d_Sets_fill_1 : decode b_Sets_fill 1 = .ok (.iload_n 1, 1) := by decide +kernel
theorem d_Sets_fill_2 : decode b_Sets_fill 2 = .ok (.ishl, 1) := by decide +kernel
theorem d_Sets_fill_3 : decode b_Sets_fill 3 = .ok (.istore 4, 2) := by decide +kernel
theorem d_Sets_fill_5 : decode b_Sets_fill 5 = .ok (.aload_n 0, 1) := by decide +kernel
theorem d_Sets_fill_6 : decode b_Sets_fill 6 = .ok (.iconst 0, 1) := by decide +kernel
theorem d_Sets_fill_7 : decode b_Sets_fill 7 = .ok (.putfield 20, 3) := by decide +kernel
theorem d_Sets_fill_10 : decode b_Sets_fill 10 = .ok (.iconst 0, 1) := by decide +kernel
theorem d_Sets_fill_11 : decode b_Sets_fill 11 = .ok (.istore 5, 2) := by decide +kernel
theorem d_Sets_fill_13 : decode b_Sets_fill 13 = .ok (.iload 5, 2) := by decide +kernel
theorem d_Sets_fill_15 : decode b_Sets_fill 15 = .ok (.iload 4, 2) := by decide +kernel
theorem d_Sets_fill_17 : decode b_Sets_fill 17 = .ok (.if_icmp .ge 50, 3) := by decide +kernel
theorem d_Sets_fill_20 : decode b_Sets_fill 20 = .ok (.iload 5, 2) := by decide +kernel
theorem d_Sets_fill_22 : decode b_Sets_fill 22 = .ok (.invokestatic 24, 3) := by decide +kernel
theorem d_Sets_fill_25 : decode b_Sets_fill 25 = .ok (.iload_n 2, 1) := by decide +kernel
theorem d_Sets_fill_26 : decode b_Sets_fill 26 = .ok (.if_icmp .ne 35, 3) := by decide +kernel
theorem d_Sets_fill_29 : decode b_Sets_fill 29 = .ok (.iload_n 3, 1) := by decide +kernel
theorem d_Sets_fill_30 : decode b_Sets_fill 30 = .ok (.iload 5, 2) := by decide +kernel
theorem d_Sets_fill_32 : decode b_Sets_fill 32 = .ok (.invokestatic 30, 3) := by decide +kernel
theorem d_Sets_fill_35 : decode b_Sets_fill 35 = .ok (.ifCond .eq 26, 3) := by decide +kernel
theorem d_Sets_fill_38 : decode b_Sets_fill 38 = .ok (.aload_n 0, 1) := by decide +kernel
theorem d_Sets_fill_39 : decode b_Sets_fill 39 = .ok (.getfield 14, 3) := by decide +kernel
theorem d_Sets_fill_42 : decode b_Sets_fill 42 = .ok (.aload_n 0, 1) := by decide +kernel
theorem d_Sets_fill_43 : decode b_Sets_fill 43 = .ok (.getfield 20, 3) := by decide +kernel
theorem d_Sets_fill_46 : decode b_Sets_fill 46 = .ok (.iload 5, 2) := by decide +kernel
theorem d_Sets_fill_48 : decode b_Sets_fill 48 = .ok (.invokevirtual 34, 3) := by decide +kernel
theorem d_Sets_fill_51 : decode b_Sets_fill 51 = .ok (.aload_n 0, 1) := by decide +kernel
theorem d_Sets_fill_52 : decode b_Sets_fill 52 = .ok (.dup, 1) := by decide +kernel
theorem d_Sets_fill_53 : decode b_Sets_fill 53 = .ok (.getfield 20, 3) := by decide +kernel
theorem d_Sets_fill_56 : decode b_Sets_fill 56 = .ok (.iconst 1, 1) := by decide +kernel
theorem d_Sets_fill_57 : decode b_Sets_fill 57 = .ok (.iadd, 1) := by decide +kernel
theorem d_Sets_fill_58 : decode b_Sets_fill 58 = .ok (.putfield 20, 3) := by decide +kernel
theorem d_Sets_fill_61 : decode b_Sets_fill 61 = .ok (.iinc 5 1, 3) := by decide +kernel
theorem d_Sets_fill_64 : decode b_Sets_fill 64 = .ok (.goto (-51), 3) := by decide +kernel
theorem d_Sets_fill_67 : decode b_Sets_fill 67 = .ok (.return_, 1) := by decide +kernel
theorem d_Integer_bitCount_0 : decode b_Integer_bitCount 0 = .ok (.iload_n 0, 1) := by decide +kernel
theorem d_Integer_bitCount_1 : decode b_Integer_bitCount 1 = .ok (.iload_n 0, 1) := by decide +kernel
theorem d_Integer_bitCount_2 : decode b_Integer_bitCount 2 = .ok (.iconst 1, 1) := by decide +kernel
theorem d_Integer_bitCount_3 : decode b_Integer_bitCount 3 = .ok (.iushr, 1) := by decide +kernel
theorem d_Integer_bitCount_4 : decode b_Integer_bitCount 4 = .ok (.ldc_w 265, 3) := by decide +kernel
theorem d_Integer_bitCount_7 : decode b_Integer_bitCount 7 = .ok (.iand, 1) := by decide +kernel
theorem d_Integer_bitCount_8 : decode b_Integer_bitCount 8 = .ok (.isub, 1) := by decide +kernel
theorem d_Integer_bitCount_9 : decode b_Integer_bitCount 9 = .ok (.istore_n 0, 1) := by decide +kernel
theorem d_Integer_bitCount_10 : decode b_Integer_bitCount 10 = .ok (.iload_n 0, 1) := by decide +kernel
theorem d_Integer_bitCount_11 : decode b_Integer_bitCount 11 = .ok (.ldc_w 266, 3) := by decide +kernel
theorem d_Integer_bitCount_14 : decode b_Integer_bitCount 14 = .ok (.iand, 1) := by decide +kernel
theorem d_Integer_bitCount_15 : decode b_Integer_bitCount 15 = .ok (.iload_n 0, 1) := by decide +kernel
theorem d_Integer_bitCount_16 : decode b_Integer_bitCount 16 = .ok (.iconst 2, 1) := by decide +kernel
theorem d_Integer_bitCount_17 : decode b_Integer_bitCount 17 = .ok (.iushr, 1) := by decide +kernel
theorem d_Integer_bitCount_18 : decode b_Integer_bitCount 18 = .ok (.ldc_w 266, 3) := by decide +kernel
theorem d_Integer_bitCount_21 : decode b_Integer_bitCount 21 = .ok (.iand, 1) := by decide +kernel
theorem d_Integer_bitCount_22 : decode b_Integer_bitCount 22 = .ok (.iadd, 1) := by decide +kernel
theorem d_Integer_bitCount_23 : decode b_Integer_bitCount 23 = .ok (.istore_n 0, 1) := by decide +kernel
theorem d_Integer_bitCount_24 : decode b_Integer_bitCount 24 = .ok (.iload_n 0, 1) := by decide +kernel
theorem d_Integer_bitCount_25 : decode b_Integer_bitCount 25 = .ok (.iload_n 0, 1) := by decide +kernel
theorem d_Integer_bitCount_26 : decode b_Integer_bitCount 26 = .ok (.iconst 4, 1) := by decide +kernel
theorem d_Integer_bitCount_27 : decode b_Integer_bitCount 27 = .ok (.iushr, 1) := by decide +kernel
theorem d_Integer_bitCount_28 : decode b_Integer_bitCount 28 = .ok (.iadd, 1) := by decide +kernel
theorem d_Integer_bitCount_29 : decode b_Integer_bitCount 29 = .ok (.ldc_w 267, 3) := by decide +kernel
theorem d_Integer_bitCount_32 : decode b_Integer_bitCount 32 = .ok (.iand, 1) := by decide +kernel
theorem d_Integer_bitCount_33 : decode b_Integer_bitCount 33 = .ok (.istore_n 0, 1) := by decide +kernel
theorem d_Integer_bitCount_34 : decode b_Integer_bitCount 34 = .ok (.iload_n 0, 1) := by decide +kernel
theorem d_Integer_bitCount_35 : decode b_Integer_bitCount 35 = .ok (.iload_n 0, 1) := by decide +kernel
theorem d_Integer_bitCount_36 : decode b_Integer_bitCount 36 = .ok (.bipush 8, 2) := by decide +kernel
theorem d_Integer_bitCount_38 : decode b_Integer_bitCount 38 = .ok (.iushr, 1) := by decide +kernel
theorem d_Integer_bitCount_39 : decode b_Integer_bitCount 39 = .ok (.iadd, 1) := by decide +kernel
theorem d_Integer_bitCount_40 : decode b_Integer_bitCount 40 = .ok (.istore_n 0, 1) := by decide +kernel
theorem d_Integer_bitCount_41 : decode b_Integer_bitCount 41 = .ok (.iload_n 0, 1) := by decide +kernel
theorem d_Integer_bitCount_42 : decode b_Integer_bitCount 42 = .ok (.iload_n 0, 1) := by decide +kernel
theorem d_Integer_bitCount_43 : decode b_Integer_bitCount 43 = .ok (.bipush 16, 2) := by decide +kernel
theorem d_Integer_bitCount_45 : decode b_Integer_bitCount 45 = .ok (.iushr, 1) := by decide +kernel
theorem d_Integer_bitCount_46 : decode b_Integer_bitCount 46 = .ok (.iadd, 1) := by decide +kernel
theorem d_Integer_bitCount_47 : decode b_Integer_bitCount 47 = .ok (.istore_n 0, 1) := by decide +kernel
theorem d_Integer_bitCount_48 : decode b_Integer_bitCount 48 = .ok (.iload_n 0, 1) := by decide +kernel
theorem d_Integer_bitCount_49 : decode b_Integer_bitCount 49 = .ok (.bipush 63, 2) := by decide +kernel
theorem d_Integer_bitCount_51 : decode b_Integer_bitCount 51 = .ok (.iand, 1) := by decide +kernel
theorem d_Integer_bitCount_52 : decode b_Integer_bitCount 52 = .ok (.ireturn, 1) := by decide +kernel
theorem d_Main_isPartOf_0 : decode b_Main_isPartOf 0 = .ok (.iload_n 0, 1) := by decide +kernel
theorem d_Main_isPartOf_1 : decode b_Main_isPartOf 1 = .ok (.iload_n 1, 1) := by decide +kernel
theorem d_Main_isPartOf_2 : decode b_Main_isPartOf 2 = .ok (.iconst (-1), 1) := by decide +kernel
theorem d_Main_isPartOf_3 : decode b_Main_isPartOf 3 = .ok (.ixor, 1) := by decide +kernel
theorem d_Main_isPartOf_4 : decode b_Main_isPartOf 4 = .ok (.iand, 1) := by decide +kernel
theorem d_Main_isPartOf_5 : decode b_Main_isPartOf 5 = .ok (.ifCond .ne 7, 3) := by decide +kernel
theorem d_Main_isPartOf_8 : decode b_Main_isPartOf 8 = .ok (.iconst 1, 1) := by decide +kernel
theorem d_Main_isPartOf_9 : decode b_Main_isPartOf 9 = .ok (.goto 4, 3) := by decide +kernel
theorem d_Main_isPartOf_12 : decode b_Main_isPartOf 12 = .ok (.iconst 0, 1) := by decide +kernel
theorem d_Main_isPartOf_13 : decode b_Main_isPartOf 13 = .ok (.ireturn, 1) := by decide +kernel
theorem d_Row_put_0 : decode b_Row_put 0 = .ok (.iload_n 1, 1) := by decide +kernel
theorem d_Row_put_1 : decode b_Row_put 1 = .ok (.ifCond .lt 19, 3) := by decide +kernel
theorem d_Row_put_4 : decode b_Row_put 4 = .ok (.iload_n 1, 1) := by decide +kernel
theorem d_Row_put_5 : decode b_Row_put 5 = .ok (.aload_n 0, 1) := by decide +kernel
theorem d_Row_put_6 : decode b_Row_put 6 = .ok (.getfield 13, 3) := by decide +kernel
theorem d_Row_put_9 : decode b_Row_put 9 = .ok (.arraylength, 1) := by decide +kernel
theorem d_Row_put_10 : decode b_Row_put 10 = .ok (.if_icmp .ge 10, 3) := by decide +kernel
theorem d_Row_put_13 : decode b_Row_put 13 = .ok (.aload_n 0, 1) := by decide +kernel
theorem d_Row_put_14 : decode b_Row_put 14 = .ok (.getfield 13, 3) := by decide +kernel
theorem d_Row_put_17 : decode b_Row_put 17 = .ok (.iload_n 1, 1) := by decide +kernel
theorem d_Row_put_18 : decode b_Row_put 18 = .ok (.iload_n 2, 1) := by decide +kernel
theorem d_Row_put_19 : decode b_Row_put 19 = .ok (.iastore, 1) := by decide +kernel
theorem d_Row_put_20 : decode b_Row_put 20 = .ok (.return_, 1) := by decide +kernel
theorem d_Sets_size_0 : decode b_Sets_size 0 = .ok (.aload_n 0, 1) := by decide +kernel
theorem d_Sets_size_1 : decode b_Sets_size 1 = .ok (.getfield 20, 3) := by decide +kernel
theorem d_Sets_size_4 : decode b_Sets_size 4 = .ok (.ireturn, 1) := by decide +kernel
theorem d_Sets_at_0 : decode b_Sets_at 0 = .ok (.aload_n 0, 1) := by decide +kernel
theorem d_Sets_at_1 : decode b_Sets_at 1 = .ok (.getfield 14, 3) := by decide +kernel
theorem d_Sets_at_4 : decode b_Sets_at 4 = .ok (.iload_n 1, 1) := by decide +kernel
theorem d_Sets_at_5 : decode b_Sets_at 5 = .ok (.invokevirtual 38, 3) := by decide +kernel
theorem d_Sets_at_8 : decode b_Sets_at 8 = .ok (.ireturn, 1) := by decide +kernel
theorem d_Row_at_0 : decode b_Row_at 0 = .ok (.iload_n 1, 1) := by decide +kernel
theorem d_Row_at_1 : decode b_Row_at 1 = .ok (.ifCond .lt 21, 3) := by decide +kernel
theorem d_Row_at_4 : decode b_Row_at 4 = .ok (.iload_n 1, 1) := by decide +kernel
theorem d_Row_at_5 : decode b_Row_at 5 = .ok (.aload_n 0, 1) := by decide +kernel
theorem d_Row_at_6 : decode b_Row_at 6 = .ok (.getfield 13, 3) := by decide +kernel
theorem d_Row_at_9 : decode b_Row_at 9 = .ok (.arraylength, 1) := by decide +kernel
theorem d_Row_at_10 : decode b_Row_at 10 = .ok (.if_icmp .ge 12, 3) := by decide +kernel
theorem d_Row_at_13 : decode b_Row_at 13 = .ok (.aload_n 0, 1) := by decide +kernel
theorem d_Row_at_14 : decode b_Row_at 14 = .ok (.getfield 13, 3) := by decide +kernel
theorem d_Row_at_17 : decode b_Row_at 17 = .ok (.iload_n 1, 1) := by decide +kernel
theorem d_Row_at_18 : decode b_Row_at 18 = .ok (.iaload, 1) := by decide +kernel
theorem d_Row_at_19 : decode b_Row_at 19 = .ok (.goto 4, 3) := by decide +kernel
theorem d_Row_at_22 : decode b_Row_at 22 = .ok (.iconst 0, 1) := by decide +kernel
theorem d_Row_at_23 : decode b_Row_at 23 = .ok (.ireturn, 1) := by decide +kernel
theorem d_Wheel_markWon_0 : decode b_Wheel_markWon 0 = .ok (.aload_n 1, 1) := by decide +kernel
theorem d_Wheel_markWon_1 : decode b_Wheel_markWon 1 = .ok (.iload_n 2, 1) := by decide +kernel
theorem d_Wheel_markWon_2 : decode b_Wheel_markWon 2 = .ok (.invokevirtual 99, 3) := by decide +kernel
theorem d_Wheel_markWon_5 : decode b_Wheel_markWon 5 = .ok (.iconst 0, 1) := by decide +kernel
theorem d_Wheel_markWon_6 : decode b_Wheel_markWon 6 = .ok (.istore 5, 2) := by decide +kernel
theorem d_Wheel_markWon_8 : decode b_Wheel_markWon 8 = .ok (.iload 5, 2) := by decide +kernel
theorem d_Wheel_markWon_10 : decode b_Wheel_markWon 10 = .ok (.aload_n 0, 1) := by decide +kernel
theorem d_Wheel_markWon_11 : decode b_Wheel_markWon 11 = .ok (.getfield 12, 3) := by decide +kernel
theorem d_Wheel_markWon_14 : decode b_Wheel_markWon 14 = .ok (.invokevirtual 64, 3) := by decide +kernel
theorem d_Wheel_markWon_17 : decode b_Wheel_markWon 17 = .ok (.if_icmp .ge 35, 3) := by decide +kernel
theorem d_Wheel_markWon_20 : decode b_Wheel_markWon 20 = .ok (.iload_n 3, 1) := by decide +kernel
theorem d_Wheel_markWon_21 : decode b_Wheel_markWon 21 = .ok (.aload_n 0, 1) := by decide +kernel
theorem d_Wheel_markWon_22 : decode b_Wheel_markWon 22 = .ok (.getfield 12, 3) := by decide +kernel
theorem d_Wheel_markWon_25 : decode b_Wheel_markWon 25 = .ok (.iload 5, 2) := by decide +kernel
theorem d_Wheel_markWon_27 : decode b_Wheel_markWon 27 = .ok (.invokevirtual 68, 3) := by decide +kernel
theorem d_Wheel_markWon_30 : decode b_Wheel_markWon 30 = .ok (.iand, 1) := by decide +kernel
theorem d_Wheel_markWon_31 : decode b_Wheel_markWon 31 = .ok (.invokestatic 102, 3) := by decide +kernel
theorem d_Wheel_markWon_34 : decode b_Wheel_markWon 34 = .ok (.iload 4, 2) := by decide +kernel
theorem d_Wheel_markWon_36 : decode b_Wheel_markWon 36 = .ok (.if_icmp .lt 10, 3) := by decide +kernel
theorem d_Wheel_markWon_39 : decode b_Wheel_markWon 39 = .ok (.aload_n 1, 1) := by decide +kernel
theorem d_Wheel_markWon_40 : decode b_Wheel_markWon 40 = .ok (.iload_n 2, 1) := by decide +kernel
theorem d_Wheel_markWon_41 : decode b_Wheel_markWon 41 = .ok (.iload 5, 2) := by decide +kernel
theorem d_Wheel_markWon_43 : decode b_Wheel_markWon 43 = .ok (.invokevirtual 107, 3) := by decide +kernel
theorem d_Wheel_markWon_46 : decode b_Wheel_markWon 46 = .ok (.iinc 5 1, 3) := by decide +kernel
theorem d_Wheel_markWon_49 : decode b_Wheel_markWon 49 = .ok (.goto (-41), 3) := by decide +kernel
theorem d_Wheel_markWon_52 : decode b_Wheel_markWon 52 = .ok (.return_, 1) := by decide +kernel
theorem d_DrawSets_clear_0 : decode b_DrawSets_clear 0 = .ok (.aload_n 0, 1) := by decide +kernel
theorem d_DrawSets_clear_1 : decode b_DrawSets_clear 1 = .ok (.iload_n 1, 1) := by decide +kernel
theorem d_DrawSets_clear_2 : decode b_DrawSets_clear 2 = .ok (.lconst 0, 1) := by decide +kernel
theorem d_DrawSets_clear_3 : decode b_DrawSets_clear 3 = .ok (.lconst 0, 1) := by decide +kernel
theorem d_DrawSets_clear_4 : decode b_DrawSets_clear 4 = .ok (.invokevirtual 22, 3) := by decide +kernel
theorem d_DrawSets_clear_7 : decode b_DrawSets_clear 7 = .ok (.return_, 1) := by decide +kernel
theorem d_DrawSets_put_0 : decode b_DrawSets_put 0 = .ok (.iload_n 1, 1) := by decide +kernel
theorem d_DrawSets_put_1 : decode b_DrawSets_put 1 = .ok (.ifCond .lt 36, 3) := by decide +kernel
theorem d_DrawSets_put_4 : decode b_DrawSets_put 4 = .ok (.iload_n 1, 1) := by decide +kernel
theorem d_DrawSets_put_5 : decode b_DrawSets_put 5 = .ok (.aload_n 0, 1) := by decide +kernel
theorem d_DrawSets_put_6 : decode b_DrawSets_put 6 = .ok (.getfield 13, 3) := by decide +kernel
theorem d_DrawSets_put_9 : decode b_DrawSets_put 9 = .ok (.arraylength, 1) := by decide +kernel
theorem d_DrawSets_put_10 : decode b_DrawSets_put 10 = .ok (.if_icmp .ge 27, 3) := by decide +kernel
theorem d_DrawSets_put_13 : decode b_DrawSets_put 13 = .ok (.iload_n 1, 1) := by decide +kernel
theorem d_DrawSets_put_14 : decode b_DrawSets_put 14 = .ok (.aload_n 0, 1) := by decide +kernel
theorem d_DrawSets_put_15 : decode b_DrawSets_put 15 = .ok (.getfield 19, 3) := by decide +kernel
theorem d_DrawSets_put_18 : decode b_DrawSets_put 18 = .ok (.arraylength, 1) := by decide +kernel
theorem d_DrawSets_put_19 : decode b_DrawSets_put 19 = .ok (.if_icmp .ge 18, 3) := by decide +kernel
theorem d_DrawSets_put_22 : decode b_DrawSets_put 22 = .ok (.aload_n 0, 1) := by decide +kernel
theorem d_DrawSets_put_23 : decode b_DrawSets_put 23 = .ok (.getfield 13, 3) := by decide +kernel
theorem d_DrawSets_put_26 : decode b_DrawSets_put 26 = .ok (.iload_n 1, 1) := by decide +kernel
theorem d_DrawSets_put_27 : decode b_DrawSets_put 27 = .ok (.lload_n 2, 1) := by decide +kernel
theorem d_DrawSets_put_28 : decode b_DrawSets_put 28 = .ok (.lastore, 1) := by decide +kernel
theorem d_DrawSets_put_29 : decode b_DrawSets_put 29 = .ok (.aload_n 0, 1) := by decide +kernel
theorem d_DrawSets_put_30 : decode b_DrawSets_put 30 = .ok (.getfield 19, 3) := by decide +kernel
theorem d_DrawSets_put_33 : decode b_DrawSets_put 33 = .ok (.iload_n 1, 1) := by decide +kernel
theorem d_DrawSets_put_34 : decode b_DrawSets_put 34 = .ok (.lload 4, 2) := by decide +kernel
theorem d_DrawSets_put_36 : decode b_DrawSets_put 36 = .ok (.lastore, 1) := by decide +kernel
theorem d_DrawSets_put_37 : decode b_DrawSets_put 37 = .ok (.return_, 1) := by decide +kernel
theorem d_DrawSets_add_0 : decode b_DrawSets_add 0 = .ok (.iload_n 2, 1) := by decide +kernel
theorem d_DrawSets_add_1 : decode b_DrawSets_add 1 = .ok (.bipush 64, 2) := by decide +kernel
theorem d_DrawSets_add_3 : decode b_DrawSets_add 3 = .ok (.if_icmp .ge 25, 3) := by decide +kernel
theorem d_DrawSets_add_6 : decode b_DrawSets_add 6 = .ok (.aload_n 0, 1) := by decide +kernel
theorem d_DrawSets_add_7 : decode b_DrawSets_add 7 = .ok (.iload_n 1, 1) := by decide +kernel
theorem d_DrawSets_add_8 : decode b_DrawSets_add 8 = .ok (.aload_n 0, 1) := by decide +kernel
theorem d_DrawSets_add_9 : decode b_DrawSets_add 9 = .ok (.iload_n 1, 1) := by decide +kernel
theorem d_DrawSets_add_10 : decode b_DrawSets_add 10 = .ok (.invokevirtual 26, 3) := by decide +kernel
theorem d_DrawSets_add_13 : decode b_DrawSets_add 13 = .ok (.lconst 1, 1) := by decide +kernel
theorem d_DrawSets_add_14 : decode b_DrawSets_add 14 = .ok (.iload_n 2, 1) := by decide +kernel
theorem d_DrawSets_add_15 : decode b_DrawSets_add 15 = .ok (.lshl, 1) := by decide +kernel
theorem d_DrawSets_add_16 : decode b_DrawSets_add 16 = .ok (.lor, 1) := by decide +kernel
theorem d_DrawSets_add_17 : decode b_DrawSets_add 17 = .ok (.aload_n 0, 1) := by decide +kernel
theorem d_DrawSets_add_18 : decode b_DrawSets_add 18 = .ok (.iload_n 1, 1) := by decide +kernel
theorem d_DrawSets_add_19 : decode b_DrawSets_add 19 = .ok (.invokevirtual 30, 3) := by decide +kernel
theorem d_DrawSets_add_22 : decode b_DrawSets_add 22 = .ok (.invokevirtual 22, 3) := by decide +kernel
theorem d_DrawSets_add_25 : decode b_DrawSets_add 25 = .ok (.goto 25, 3) := by decide +kernel
theorem d_DrawSets_add_28 : decode b_DrawSets_add 28 = .ok (.aload_n 0, 1) := by decide +kernel
theorem d_DrawSets_add_29 : decode b_DrawSets_add 29 = .ok (.iload_n 1, 1) := by decide +kernel
theorem d_DrawSets_add_30 : decode b_DrawSets_add 30 = .ok (.aload_n 0, 1) := by decide +kernel
theorem d_DrawSets_add_31 : decode b_DrawSets_add 31 = .ok (.iload_n 1, 1) := by decide +kernel
theorem d_DrawSets_add_32 : decode b_DrawSets_add 32 = .ok (.invokevirtual 26, 3) := by decide +kernel
theorem d_DrawSets_add_35 : decode b_DrawSets_add 35 = .ok (.aload_n 0, 1) := by decide +kernel
theorem d_DrawSets_add_36 : decode b_DrawSets_add 36 = .ok (.iload_n 1, 1) := by decide +kernel
theorem d_DrawSets_add_37 : decode b_DrawSets_add 37 = .ok (.invokevirtual 30, 3) := by decide +kernel
theorem d_DrawSets_add_40 : decode b_DrawSets_add 40 = .ok (.lconst 1, 1) := by decide +kernel
theorem d_DrawSets_add_41 : decode b_DrawSets_add 41 = .ok (.iload_n 2, 1) := by decide +kernel
theorem d_DrawSets_add_42 : decode b_DrawSets_add 42 = .ok (.bipush 64, 2) := by decide +kernel
theorem d_DrawSets_add_44 : decode b_DrawSets_add 44 = .ok (.isub, 1) := by decide +kernel
theorem d_DrawSets_add_45 : decode b_DrawSets_add 45 = .ok (.lshl, 1) := by decide +kernel
theorem d_DrawSets_add_46 : decode b_DrawSets_add 46 = .ok (.lor, 1) := by decide +kernel
theorem d_DrawSets_add_47 : decode b_DrawSets_add 47 = .ok (.invokevirtual 22, 3) := by decide +kernel
theorem d_DrawSets_add_50 : decode b_DrawSets_add 50 = .ok (.return_, 1) := by decide +kernel
theorem d_DrawSets_lowAt_0 : decode b_DrawSets_lowAt 0 = .ok (.iload_n 1, 1) := by decide +kernel
theorem d_DrawSets_lowAt_1 : decode b_DrawSets_lowAt 1 = .ok (.ifCond .lt 21, 3) := by decide +kernel
theorem d_DrawSets_lowAt_4 : decode b_DrawSets_lowAt 4 = .ok (.iload_n 1, 1) := by decide +kernel
theorem d_DrawSets_lowAt_5 : decode b_DrawSets_lowAt 5 = .ok (.aload_n 0, 1) := by decide +kernel
theorem d_DrawSets_lowAt_6 : decode b_DrawSets_lowAt 6 = .ok (.getfield 13, 3) := by decide +kernel
theorem d_DrawSets_lowAt_9 : decode b_DrawSets_lowAt 9 = .ok (.arraylength, 1) := by decide +kernel
theorem d_DrawSets_lowAt_10 : decode b_DrawSets_lowAt 10 = .ok (.if_icmp .ge 12, 3) := by decide +kernel
theorem d_DrawSets_lowAt_13 : decode b_DrawSets_lowAt 13 = .ok (.aload_n 0, 1) := by decide +kernel
theorem d_DrawSets_lowAt_14 : decode b_DrawSets_lowAt 14 = .ok (.getfield 13, 3) := by decide +kernel
theorem d_DrawSets_lowAt_17 : decode b_DrawSets_lowAt 17 = .ok (.iload_n 1, 1) := by decide +kernel
theorem d_DrawSets_lowAt_18 : decode b_DrawSets_lowAt 18 = .ok (.laload, 1) := by decide +kernel
theorem d_DrawSets_lowAt_19 : decode b_DrawSets_lowAt 19 = .ok (.goto 4, 3) := by decide +kernel
theorem d_DrawSets_lowAt_22 : decode b_DrawSets_lowAt 22 = .ok (.lconst 0, 1) := by decide +kernel
theorem d_DrawSets_lowAt_23 : decode b_DrawSets_lowAt 23 = .ok (.lreturn, 1) := by decide +kernel
theorem d_DrawSets_highAt_0 : decode b_DrawSets_highAt 0 = .ok (.iload_n 1, 1) := by decide +kernel
theorem d_DrawSets_highAt_1 : decode b_DrawSets_highAt 1 = .ok (.ifCond .lt 21, 3) := by decide +kernel
theorem d_DrawSets_highAt_4 : decode b_DrawSets_highAt 4 = .ok (.iload_n 1, 1) := by decide +kernel
theorem d_DrawSets_highAt_5 : decode b_DrawSets_highAt 5 = .ok (.aload_n 0, 1) := by decide +kernel
theorem d_DrawSets_highAt_6 : decode b_DrawSets_highAt 6 = .ok (.getfield 19, 3) := by decide +kernel
theorem d_DrawSets_highAt_9 : decode b_DrawSets_highAt 9 = .ok (.arraylength, 1) := by decide +kernel
theorem d_DrawSets_highAt_10 : decode b_DrawSets_highAt 10 = .ok (.if_icmp .ge 12, 3) := by decide +kernel
theorem d_DrawSets_highAt_13 : decode b_DrawSets_highAt 13 = .ok (.aload_n 0, 1) := by decide +kernel
theorem d_DrawSets_highAt_14 : decode b_DrawSets_highAt 14 = .ok (.getfield 19, 3) := by decide +kernel
theorem d_DrawSets_highAt_17 : decode b_DrawSets_highAt 17 = .ok (.iload_n 1, 1) := by decide +kernel
theorem d_DrawSets_highAt_18 : decode b_DrawSets_highAt 18 = .ok (.laload, 1) := by decide +kernel
theorem d_DrawSets_highAt_19 : decode b_DrawSets_highAt 19 = .ok (.goto 4, 3) := by decide +kernel
theorem d_DrawSets_highAt_22 : decode b_DrawSets_highAt 22 = .ok (.lconst 0, 1) := by decide +kernel
theorem d_DrawSets_highAt_23 : decode b_DrawSets_highAt 23 = .ok (.lreturn, 1) := by decide +kernel
theorem d_Wheel_wonByOne_0 : decode b_Wheel_wonByOne 0 = .ok (.aload_n 0, 1) := by decide +kernel
theorem d_Wheel_wonByOne_1 : decode b_Wheel_wonByOne 1 = .ok (.getfield 26, 3) := by decide +kernel
theorem d_Wheel_wonByOne_4 : decode b_Wheel_wonByOne 4 = .ok (.iconst 0, 1) := by decide +kernel
theorem d_Wheel_wonByOne_5 : decode b_Wheel_wonByOne 5 = .ok (.invokevirtual 110, 3) := by decide +kernel
theorem d_Wheel_wonByOne_8 : decode b_Wheel_wonByOne 8 = .ok (.ireturn, 1) := by decide +kernel
theorem d_DrawSets_count_0 : decode b_DrawSets_count 0 = .ok (.aload_n 0, 1) := by decide +kernel
theorem d_DrawSets_count_1 : decode b_DrawSets_count 1 = .ok (.iload_n 1, 1) := by decide +kernel
theorem d_DrawSets_count_2 : decode b_DrawSets_count 2 = .ok (.invokevirtual 26, 3) := by decide +kernel
theorem d_DrawSets_count_5 : decode b_DrawSets_count 5 = .ok (.invokestatic 33, 3) := by decide +kernel
theorem d_DrawSets_count_8 : decode b_DrawSets_count 8 = .ok (.aload_n 0, 1) := by decide +kernel
theorem d_DrawSets_count_9 : decode b_DrawSets_count 9 = .ok (.iload_n 1, 1) := by decide +kernel
theorem d_DrawSets_count_10 : decode b_DrawSets_count 10 = .ok (.invokevirtual 30, 3) := by decide +kernel
theorem d_DrawSets_count_13 : decode b_DrawSets_count 13 = .ok (.invokestatic 33, 3) := by decide +kernel
theorem d_DrawSets_count_16 : decode b_DrawSets_count 16 = .ok (.iadd, 1) := by decide +kernel
theorem d_DrawSets_count_17 : decode b_DrawSets_count 17 = .ok (.ireturn, 1) := by decide +kernel
theorem d_Long_bitCount_0 : decode b_Long_bitCount 0 = .ok (.lload_n 0, 1) := by decide +kernel
theorem d_Long_bitCount_1 : decode b_Long_bitCount 1 = .ok (.lload_n 0, 1) := by decide +kernel
theorem d_Long_bitCount_2 : decode b_Long_bitCount 2 = .ok (.iconst 1, 1) := by decide +kernel
theorem d_Long_bitCount_3 : decode b_Long_bitCount 3 = .ok (.lushr, 1) := by decide +kernel
theorem d_Long_bitCount_4 : decode b_Long_bitCount 4 = .ok (.ldc2_w 314, 3) := by decide +kernel
theorem d_Long_bitCount_7 : decode b_Long_bitCount 7 = .ok (.land, 1) := by decide +kernel
theorem d_Long_bitCount_8 : decode b_Long_bitCount 8 = .ok (.lsub, 1) := by decide +kernel
theorem d_Long_bitCount_9 : decode b_Long_bitCount 9 = .ok (.lstore_n 0, 1) := by decide +kernel
theorem d_Long_bitCount_10 : decode b_Long_bitCount 10 = .ok (.lload_n 0, 1) := by decide +kernel
theorem d_Long_bitCount_11 : decode b_Long_bitCount 11 = .ok (.ldc2_w 316, 3) := by decide +kernel
theorem d_Long_bitCount_14 : decode b_Long_bitCount 14 = .ok (.land, 1) := by decide +kernel
theorem d_Long_bitCount_15 : decode b_Long_bitCount 15 = .ok (.lload_n 0, 1) := by decide +kernel
theorem d_Long_bitCount_16 : decode b_Long_bitCount 16 = .ok (.iconst 2, 1) := by decide +kernel
theorem d_Long_bitCount_17 : decode b_Long_bitCount 17 = .ok (.lushr, 1) := by decide +kernel
theorem d_Long_bitCount_18 : decode b_Long_bitCount 18 = .ok (.ldc2_w 316, 3) := by decide +kernel
theorem d_Long_bitCount_21 : decode b_Long_bitCount 21 = .ok (.land, 1) := by decide +kernel
theorem d_Long_bitCount_22 : decode b_Long_bitCount 22 = .ok (.ladd, 1) := by decide +kernel
theorem d_Long_bitCount_23 : decode b_Long_bitCount 23 = .ok (.lstore_n 0, 1) := by decide +kernel
theorem d_Long_bitCount_24 : decode b_Long_bitCount 24 = .ok (.lload_n 0, 1) := by decide +kernel
theorem d_Long_bitCount_25 : decode b_Long_bitCount 25 = .ok (.lload_n 0, 1) := by decide +kernel
theorem d_Long_bitCount_26 : decode b_Long_bitCount 26 = .ok (.iconst 4, 1) := by decide +kernel
theorem d_Long_bitCount_27 : decode b_Long_bitCount 27 = .ok (.lushr, 1) := by decide +kernel
theorem d_Long_bitCount_28 : decode b_Long_bitCount 28 = .ok (.ladd, 1) := by decide +kernel
theorem d_Long_bitCount_29 : decode b_Long_bitCount 29 = .ok (.ldc2_w 318, 3) := by decide +kernel
theorem d_Long_bitCount_32 : decode b_Long_bitCount 32 = .ok (.land, 1) := by decide +kernel
theorem d_Long_bitCount_33 : decode b_Long_bitCount 33 = .ok (.lstore_n 0, 1) := by decide +kernel
theorem d_Long_bitCount_34 : decode b_Long_bitCount 34 = .ok (.lload_n 0, 1) := by decide +kernel
theorem d_Long_bitCount_35 : decode b_Long_bitCount 35 = .ok (.lload_n 0, 1) := by decide +kernel
theorem d_Long_bitCount_36 : decode b_Long_bitCount 36 = .ok (.bipush 8, 2) := by decide +kernel
theorem d_Long_bitCount_38 : decode b_Long_bitCount 38 = .ok (.lushr, 1) := by decide +kernel
theorem d_Long_bitCount_39 : decode b_Long_bitCount 39 = .ok (.ladd, 1) := by decide +kernel
theorem d_Long_bitCount_40 : decode b_Long_bitCount 40 = .ok (.lstore_n 0, 1) := by decide +kernel
theorem d_Long_bitCount_41 : decode b_Long_bitCount 41 = .ok (.lload_n 0, 1) := by decide +kernel
theorem d_Long_bitCount_42 : decode b_Long_bitCount 42 = .ok (.lload_n 0, 1) := by decide +kernel
theorem d_Long_bitCount_43 : decode b_Long_bitCount 43 = .ok (.bipush 16, 2) := by decide +kernel
theorem d_Long_bitCount_45 : decode b_Long_bitCount 45 = .ok (.lushr, 1) := by decide +kernel
theorem d_Long_bitCount_46 : decode b_Long_bitCount 46 = .ok (.ladd, 1) := by decide +kernel
theorem d_Long_bitCount_47 : decode b_Long_bitCount 47 = .ok (.lstore_n 0, 1) := by decide +kernel
theorem d_Long_bitCount_48 : decode b_Long_bitCount 48 = .ok (.lload_n 0, 1) := by decide +kernel
theorem d_Long_bitCount_49 : decode b_Long_bitCount 49 = .ok (.lload_n 0, 1) := by decide +kernel
theorem d_Long_bitCount_50 : decode b_Long_bitCount 50 = .ok (.bipush 32, 2) := by decide +kernel
theorem d_Long_bitCount_52 : decode b_Long_bitCount 52 = .ok (.lushr, 1) := by decide +kernel
theorem d_Long_bitCount_53 : decode b_Long_bitCount 53 = .ok (.ladd, 1) := by decide +kernel
theorem d_Long_bitCount_54 : decode b_Long_bitCount 54 = .ok (.lstore_n 0, 1) := by decide +kernel
theorem d_Long_bitCount_55 : decode b_Long_bitCount 55 = .ok (.lload_n 0, 1) := by decide +kernel
theorem d_Long_bitCount_56 : decode b_Long_bitCount 56 = .ok (.l2i, 1) := by decide +kernel
theorem d_Long_bitCount_57 : decode b_Long_bitCount 57 = .ok (.bipush 127, 2) := by decide +kernel
theorem d_Long_bitCount_59 : decode b_Long_bitCount 59 = .ok (.iand, 1) := by decide +kernel
theorem d_Long_bitCount_60 : decode b_Long_bitCount 60 = .ok (.ireturn, 1) := by decide +kernel
theorem d_Search_begin_0 : decode b_Search_begin 0 = .ok (.aload_n 0, 1) := by decide +kernel
theorem d_Search_begin_1 : decode b_Search_begin 1 = .ok (.iload_n 1, 1) := by decide +kernel
theorem d_Search_begin_2 : decode b_Search_begin 2 = .ok (.putfield 50, 3) := by decide +kernel
theorem d_Search_begin_5 : decode b_Search_begin 5 = .ok (.aload_n 0, 1) := by decide +kernel
theorem d_Search_begin_6 : decode b_Search_begin 6 = .ok (.iload_n 2, 1) := by decide +kernel
theorem d_Search_begin_7 : decode b_Search_begin 7 = .ok (.putfield 54, 3) := by decide +kernel
theorem d_Search_begin_10 : decode b_Search_begin 10 = .ok (.aload_n 0, 1) := by decide +kernel
theorem d_Search_begin_11 : decode b_Search_begin 11 = .ok (.getfield 30, 3) := by decide +kernel
theorem d_Search_begin_14 : decode b_Search_begin 14 = .ok (.iconst 0, 1) := by decide +kernel
theorem d_Search_begin_15 : decode b_Search_begin 15 = .ok (.putfield 57, 3) := by decide +kernel
theorem d_Search_begin_18 : decode b_Search_begin 18 = .ok (.aload_n 0, 1) := by decide +kernel
theorem d_Search_begin_19 : decode b_Search_begin 19 = .ok (.getfield 34, 3) := by decide +kernel
theorem d_Search_begin_22 : decode b_Search_begin 22 = .ok (.iconst 0, 1) := by decide +kernel
theorem d_Search_begin_23 : decode b_Search_begin 23 = .ok (.putfield 57, 3) := by decide +kernel
theorem d_Search_begin_26 : decode b_Search_begin 26 = .ok (.aload_n 0, 1) := by decide +kernel
theorem d_Search_begin_27 : decode b_Search_begin 27 = .ok (.getfield 37, 3) := by decide +kernel
theorem d_Search_begin_30 : decode b_Search_begin 30 = .ok (.iconst 0, 1) := by decide +kernel
theorem d_Search_begin_31 : decode b_Search_begin 31 = .ok (.putfield 57, 3) := by decide +kernel
theorem d_Search_begin_34 : decode b_Search_begin 34 = .ok (.aload_n 0, 1) := by decide +kernel
theorem d_Search_begin_35 : decode b_Search_begin 35 = .ok (.getfield 40, 3) := by decide +kernel
theorem d_Search_begin_38 : decode b_Search_begin 38 = .ok (.iconst 0, 1) := by decide +kernel
theorem d_Search_begin_39 : decode b_Search_begin 39 = .ok (.putfield 57, 3) := by decide +kernel
theorem d_Search_begin_42 : decode b_Search_begin 42 = .ok (.return_, 1) := by decide +kernel
theorem d_Main_game_0 : decode b_Main_game 0 = .ok (.iload_n 1, 1) := by decide +kernel
theorem d_Main_game_1 : decode b_Main_game 1 = .ok (.iconst 3, 1) := by decide +kernel
theorem d_Main_game_2 : decode b_Main_game 2 = .ok (.bipush 8, 2) := by decide +kernel
theorem d_Main_game_4 : decode b_Main_game 4 = .ok (.invokestatic 44, 3) := by decide +kernel
theorem d_Main_game_7 : decode b_Main_game 7 = .ok (.ifCond .eq 39, 3) := by decide +kernel
theorem d_Main_game_10 : decode b_Main_game 10 = .ok (.iload_n 2, 1) := by decide +kernel
theorem d_Main_game_11 : decode b_Main_game 11 = .ok (.iconst 2, 1) := by decide +kernel
theorem d_Main_game_12 : decode b_Main_game 12 = .ok (.iload_n 1, 1) := by decide +kernel
theorem d_Main_game_13 : decode b_Main_game 13 = .ok (.iconst 1, 1) := by decide +kernel
theorem d_Main_game_14 : decode b_Main_game 14 = .ok (.isub, 1) := by decide +kernel
theorem d_Main_game_15 : decode b_Main_game 15 = .ok (.invokestatic 44, 3) := by decide +kernel
theorem d_Main_game_18 : decode b_Main_game 18 = .ok (.ifCond .eq 28, 3) := by decide +kernel
theorem d_Main_game_21 : decode b_Main_game 21 = .ok (.iload_n 3, 1) := by decide +kernel
theorem d_Main_game_22 : decode b_Main_game 22 = .ok (.iconst 2, 1) := by decide +kernel
theorem d_Main_game_23 : decode b_Main_game 23 = .ok (.iload_n 1, 1) := by decide +kernel
theorem d_Main_game_24 : decode b_Main_game 24 = .ok (.iconst 1, 1) := by decide +kernel
theorem d_Main_game_25 : decode b_Main_game 25 = .ok (.isub, 1) := by decide +kernel
theorem d_Main_game_26 : decode b_Main_game 26 = .ok (.invokestatic 44, 3) := by decide +kernel
theorem d_Main_game_29 : decode b_Main_game 29 = .ok (.ifCond .eq 17, 3) := by decide +kernel
theorem d_Main_game_32 : decode b_Main_game 32 = .ok (.iload 4, 2) := by decide +kernel
theorem d_Main_game_34 : decode b_Main_game 34 = .ok (.iconst 1, 1) := by decide +kernel
theorem d_Main_game_35 : decode b_Main_game 35 = .ok (.iload_n 2, 1) := by decide +kernel
theorem d_Main_game_36 : decode b_Main_game 36 = .ok (.iload_n 3, 1) := by decide +kernel
theorem d_Main_game_37 : decode b_Main_game 37 = .ok (.invokestatic 48, 3) := by decide +kernel
theorem d_Main_game_40 : decode b_Main_game 40 = .ok (.invokestatic 44, 3) := by decide +kernel
theorem d_Main_game_43 : decode b_Main_game 43 = .ok (.ifCond .ne 6, 3) := by decide +kernel
theorem d_Main_game_46 : decode b_Main_game 46 = .ok (.bipush (-2), 2) := by decide +kernel
theorem d_Main_game_48 : decode b_Main_game 48 = .ok (.ireturn, 1) := by decide +kernel
theorem d_Main_game_49 : decode b_Main_game 49 = .ok (.aload_n 0, 1) := by decide +kernel
theorem d_Main_game_50 : decode b_Main_game 50 = .ok (.getfield 19, 3) := by decide +kernel
theorem d_Main_game_53 : decode b_Main_game 53 = .ok (.iload_n 1, 1) := by decide +kernel
theorem d_Main_game_54 : decode b_Main_game 54 = .ok (.iload_n 2, 1) := by decide +kernel
theorem d_Main_game_55 : decode b_Main_game 55 = .ok (.iload_n 3, 1) := by decide +kernel
theorem d_Main_game_56 : decode b_Main_game 56 = .ok (.iload 4, 2) := by decide +kernel
theorem d_Main_game_58 : decode b_Main_game 58 = .ok (.invokevirtual 54, 3) := by decide +kernel
theorem d_Main_game_61 : decode b_Main_game 61 = .ok (.aload_n 0, 1) := by decide +kernel
theorem d_Main_game_62 : decode b_Main_game 62 = .ok (.getfield 26, 3) := by decide +kernel
theorem d_Main_game_65 : decode b_Main_game 65 = .ok (.aload_n 0, 1) := by decide +kernel
theorem d_Main_game_66 : decode b_Main_game 66 = .ok (.getfield 19, 3) := by decide +kernel
theorem d_Main_game_69 : decode b_Main_game 69 = .ok (.invokevirtual 40, 3) := by decide +kernel
theorem d_Main_game_72 : decode b_Main_game 72 = .ok (.aload_n 0, 1) := by decide +kernel
theorem d_Main_game_73 : decode b_Main_game 73 = .ok (.getfield 26, 3) := by decide +kernel
theorem d_Main_game_76 : decode b_Main_game 76 = .ok (.aload_n 0, 1) := by decide +kernel
theorem d_Main_game_77 : decode b_Main_game 77 = .ok (.getfield 19, 3) := by decide +kernel
theorem d_Main_game_80 : decode b_Main_game 80 = .ok (.invokevirtual 58, 3) := by decide +kernel
theorem d_Main_game_83 : decode b_Main_game 83 = .ok (.aload_n 0, 1) := by decide +kernel
theorem d_Main_game_84 : decode b_Main_game 84 = .ok (.getfield 26, 3) := by decide +kernel
theorem d_Main_game_87 : decode b_Main_game 87 = .ok (.getfield 61, 3) := by decide +kernel
theorem d_Main_game_90 : decode b_Main_game 90 = .ok (.invokevirtual 65, 3) := by decide +kernel
theorem d_Main_game_93 : decode b_Main_game 93 = .ok (.ireturn, 1) := by decide +kernel
theorem d_Main_isWithin_0 : decode b_Main_isWithin 0 = .ok (.iload_n 0, 1) := by decide +kernel
theorem d_Main_isWithin_1 : decode b_Main_isWithin 1 = .ok (.iload_n 1, 1) := by decide +kernel
theorem d_Main_isWithin_2 : decode b_Main_isWithin 2 = .ok (.if_icmp .lt 12, 3) := by decide +kernel
theorem d_Main_isWithin_5 : decode b_Main_isWithin 5 = .ok (.iload_n 0, 1) := by decide +kernel
theorem d_Main_isWithin_6 : decode b_Main_isWithin 6 = .ok (.iload_n 2, 1) := by decide +kernel
theorem d_Main_isWithin_7 : decode b_Main_isWithin 7 = .ok (.if_icmp .gt 7, 3) := by decide +kernel
theorem d_Main_isWithin_10 : decode b_Main_isWithin 10 = .ok (.iconst 1, 1) := by decide +kernel
theorem d_Main_isWithin_11 : decode b_Main_isWithin 11 = .ok (.goto 4, 3) := by decide +kernel
theorem d_Main_isWithin_14 : decode b_Main_isWithin 14 = .ok (.iconst 0, 1) := by decide +kernel
theorem d_Main_isWithin_15 : decode b_Main_isWithin 15 = .ok (.ireturn, 1) := by decide +kernel
theorem d_Wheel_takeTickets_0 : decode b_Wheel_takeTickets 0 = .ok (.aload_n 0, 1) := by decide +kernel
theorem d_Wheel_takeTickets_1 : decode b_Wheel_takeTickets 1 = .ok (.aload_n 1, 1) := by decide +kernel
theorem d_Wheel_takeTickets_2 : decode b_Wheel_takeTickets 2 = .ok (.getfield 86, 3) := by decide +kernel
theorem d_Wheel_takeTickets_5 : decode b_Wheel_takeTickets 5 = .ok (.putfield 89, 3) := by decide +kernel
theorem d_Wheel_takeTickets_8 : decode b_Wheel_takeTickets 8 = .ok (.iconst 0, 1) := by decide +kernel
theorem d_Wheel_takeTickets_9 : decode b_Wheel_takeTickets 9 = .ok (.istore_n 2, 1) := by decide +kernel
theorem d_Wheel_takeTickets_10 : decode b_Wheel_takeTickets 10 = .ok (.iload_n 2, 1) := by decide +kernel
theorem d_Wheel_takeTickets_11 : decode b_Wheel_takeTickets 11 = .ok (.aload_n 0, 1) := by decide +kernel
theorem d_Wheel_takeTickets_12 : decode b_Wheel_takeTickets 12 = .ok (.getfield 89, 3) := by decide +kernel
theorem d_Wheel_takeTickets_15 : decode b_Wheel_takeTickets 15 = .ok (.if_icmp .ge 30, 3) := by decide +kernel
theorem d_Wheel_takeTickets_18 : decode b_Wheel_takeTickets 18 = .ok (.aload_n 0, 1) := by decide +kernel
theorem d_Wheel_takeTickets_19 : decode b_Wheel_takeTickets 19 = .ok (.aload_n 0, 1) := by decide +kernel
theorem d_Wheel_takeTickets_20 : decode b_Wheel_takeTickets 20 = .ok (.getfield 30, 3) := by decide +kernel
theorem d_Wheel_takeTickets_23 : decode b_Wheel_takeTickets 23 = .ok (.iload_n 2, 1) := by decide +kernel
theorem d_Wheel_takeTickets_24 : decode b_Wheel_takeTickets 24 = .ok (.aload_n 1, 1) := by decide +kernel
theorem d_Wheel_takeTickets_25 : decode b_Wheel_takeTickets 25 = .ok (.getfield 92, 3) := by decide +kernel
theorem d_Wheel_takeTickets_28 : decode b_Wheel_takeTickets 28 = .ok (.iload_n 2, 1) := by decide +kernel
theorem d_Wheel_takeTickets_29 : decode b_Wheel_takeTickets 29 = .ok (.invokevirtual 96, 3) := by decide +kernel
theorem d_Wheel_takeTickets_32 : decode b_Wheel_takeTickets 32 = .ok (.aload_n 1, 1) := by decide +kernel
theorem d_Wheel_takeTickets_33 : decode b_Wheel_takeTickets 33 = .ok (.getfield 72, 3) := by decide +kernel
theorem d_Wheel_takeTickets_36 : decode b_Wheel_takeTickets 36 = .ok (.invokevirtual 75, 3) := by decide +kernel
theorem d_Wheel_takeTickets_39 : decode b_Wheel_takeTickets 39 = .ok (.iinc 2 1, 3) := by decide +kernel
theorem d_Wheel_takeTickets_42 : decode b_Wheel_takeTickets 42 = .ok (.goto (-32), 3) := by decide +kernel
theorem d_Wheel_takeTickets_45 : decode b_Wheel_takeTickets 45 = .ok (.return_, 1) := by decide +kernel
theorem d_Main_say_0 : decode b_Main_say 0 = .ok (.iload_n 1, 1) := by decide +kernel
theorem d_Main_say_1 : decode b_Main_say 1 = .ok (.bipush 33, 2) := by decide +kernel
theorem d_Main_say_3 : decode b_Main_say 3 = .ok (.bipush 126, 2) := by decide +kernel
theorem d_Main_say_5 : decode b_Main_say 5 = .ok (.invokestatic 44, 3) := by decide +kernel
theorem d_Main_say_8 : decode b_Main_say 8 = .ok (.ifCond .ne 6, 3) := by decide +kernel
theorem d_Main_say_11 : decode b_Main_say 11 = .ok (.bipush (-2), 2) := by decide +kernel
theorem d_Main_say_13 : decode b_Main_say 13 = .ok (.ireturn, 1) := by decide +kernel
theorem d_Main_say_14 : decode b_Main_say 14 = .ok (.aload_n 0, 1) := by decide +kernel
theorem d_Main_say_15 : decode b_Main_say 15 = .ok (.getfield 10, 3) := by decide +kernel
theorem d_Main_say_18 : decode b_Main_say 18 = .ok (.invokevirtual 71, 3) := by decide +kernel
theorem d_Main_say_21 : decode b_Main_say 21 = .ok (.bipush 60, 2) := by decide +kernel
theorem d_Main_say_23 : decode b_Main_say 23 = .ok (.if_icmp .lt 6, 3) := by decide +kernel
theorem d_Main_say_26 : decode b_Main_say 26 = .ok (.bipush (-4), 2) := by decide +kernel
theorem d_Main_say_28 : decode b_Main_say 28 = .ok (.ireturn, 1) := by decide +kernel
theorem d_Main_say_29 : decode b_Main_say 29 = .ok (.aload_n 0, 1) := by decide +kernel
theorem d_Main_say_30 : decode b_Main_say 30 = .ok (.getfield 10, 3) := by decide +kernel
theorem d_Main_say_33 : decode b_Main_say 33 = .ok (.iload_n 1, 1) := by decide +kernel
theorem d_Main_say_34 : decode b_Main_say 34 = .ok (.invokevirtual 72, 3) := by decide +kernel
theorem d_Main_say_37 : decode b_Main_say 37 = .ok (.aload_n 0, 1) := by decide +kernel
theorem d_Main_say_38 : decode b_Main_say 38 = .ok (.getfield 10, 3) := by decide +kernel
theorem d_Main_say_41 : decode b_Main_say 41 = .ok (.invokevirtual 71, 3) := by decide +kernel
theorem d_Main_say_44 : decode b_Main_say 44 = .ok (.ireturn, 1) := by decide +kernel
theorem d_Pad_size_0 : decode b_Pad_size 0 = .ok (.aload_n 0, 1) := by decide +kernel
theorem d_Pad_size_1 : decode b_Pad_size 1 = .ok (.getfield 20, 3) := by decide +kernel
theorem d_Pad_size_4 : decode b_Pad_size 4 = .ok (.ireturn, 1) := by decide +kernel
theorem d_Pad_add_0 : decode b_Pad_add 0 = .ok (.aload_n 0, 1) := by decide +kernel
theorem d_Pad_add_1 : decode b_Pad_add 1 = .ok (.getfield 14, 3) := by decide +kernel
theorem d_Pad_add_4 : decode b_Pad_add 4 = .ok (.aload_n 0, 1) := by decide +kernel
theorem d_Pad_add_5 : decode b_Pad_add 5 = .ok (.getfield 20, 3) := by decide +kernel
theorem d_Pad_add_8 : decode b_Pad_add 8 = .ok (.iload_n 1, 1) := by decide +kernel
theorem d_Pad_add_9 : decode b_Pad_add 9 = .ok (.invokevirtual 24, 3) := by decide +kernel
theorem d_Pad_add_12 : decode b_Pad_add 12 = .ok (.aload_n 0, 1) := by decide +kernel
theorem d_Pad_add_13 : decode b_Pad_add 13 = .ok (.dup, 1) := by decide +kernel
theorem d_Pad_add_14 : decode b_Pad_add 14 = .ok (.getfield 20, 3) := by decide +kernel
theorem d_Pad_add_17 : decode b_Pad_add 17 = .ok (.iconst 1, 1) := by decide +kernel
theorem d_Pad_add_18 : decode b_Pad_add 18 = .ok (.iadd, 1) := by decide +kernel
theorem d_Pad_add_19 : decode b_Pad_add 19 = .ok (.putfield 20, 3) := by decide +kernel
theorem d_Pad_add_22 : decode b_Pad_add 22 = .ok (.return_, 1) := by decide +kernel
theorem d_Main_wipe_0 : decode b_Main_wipe 0 = .ok (.aload_n 0, 1) := by decide +kernel
theorem d_Main_wipe_1 : decode b_Main_wipe 1 = .ok (.getfield 10, 3) := by decide +kernel
theorem d_Main_wipe_4 : decode b_Main_wipe 4 = .ok (.invokevirtual 71, 3) := by decide +kernel
theorem d_Main_wipe_7 : decode b_Main_wipe 7 = .ok (.istore_n 1, 1) := by decide +kernel
theorem d_Main_wipe_8 : decode b_Main_wipe 8 = .ok (.aload_n 0, 1) := by decide +kernel
theorem d_Main_wipe_9 : decode b_Main_wipe 9 = .ok (.getfield 10, 3) := by decide +kernel
theorem d_Main_wipe_12 : decode b_Main_wipe 12 = .ok (.invokevirtual 76, 3) := by decide +kernel
theorem d_Main_wipe_15 : decode b_Main_wipe 15 = .ok (.iload_n 1, 1) := by decide +kernel
theorem d_Main_wipe_16 : decode b_Main_wipe 16 = .ok (.ireturn, 1) := by decide +kernel
theorem d_Pad_clear_0 : decode b_Pad_clear 0 = .ok (.aload_n 0, 1) := by decide +kernel
theorem d_Pad_clear_1 : decode b_Pad_clear 1 = .ok (.iconst 0, 1) := by decide +kernel
theorem d_Pad_clear_2 : decode b_Pad_clear 2 = .ok (.putfield 20, 3) := by decide +kernel
theorem d_Pad_clear_5 : decode b_Pad_clear 5 = .ok (.return_, 1) := by decide +kernel
theorem d_Main_fault_0 : decode b_Main_fault 0 = .ok (.aload_n 0, 1) := by decide +kernel
theorem d_Main_fault_1 : decode b_Main_fault 1 = .ok (.getfield 10, 3) := by decide +kernel
theorem d_Main_fault_4 : decode b_Main_fault 4 = .ok (.aload_n 0, 1) := by decide +kernel
theorem d_Main_fault_5 : decode b_Main_fault 5 = .ok (.getfield 19, 3) := by decide +kernel
theorem d_Main_fault_8 : decode b_Main_fault 8 = .ok (.getfield 79, 3) := by decide +kernel
theorem d_Main_fault_11 : decode b_Main_fault 11 = .ok (.aload_n 0, 1) := by decide +kernel
theorem d_Main_fault_12 : decode b_Main_fault 12 = .ok (.getfield 19, 3) := by decide +kernel
theorem d_Main_fault_15 : decode b_Main_fault 15 = .ok (.getfield 83, 3) := by decide +kernel
theorem d_Main_fault_18 : decode b_Main_fault 18 = .ok (.invokevirtual 86, 3) := by decide +kernel
theorem d_Main_fault_21 : decode b_Main_fault 21 = .ok (.ireturn, 1) := by decide +kernel
theorem d_Pad_findFault_0 : decode b_Pad_findFault 0 = .ok (.iconst 0, 1) := by decide +kernel
theorem d_Pad_findFault_1 : decode b_Pad_findFault 1 = .ok (.istore_n 3, 1) := by decide +kernel
theorem d_Pad_findFault_2 : decode b_Pad_findFault 2 = .ok (.iconst 0, 1) := by decide +kernel
theorem d_Pad_findFault_3 : decode b_Pad_findFault 3 = .ok (.istore 4, 2) := by decide +kernel
theorem d_Pad_findFault_5 : decode b_Pad_findFault 5 = .ok (.iconst 0, 1) := by decide +kernel
theorem d_Pad_findFault_6 : decode b_Pad_findFault 6 = .ok (.istore 5, 2) := by decide +kernel
theorem d_Pad_findFault_8 : decode b_Pad_findFault 8 = .ok (.iconst 0, 1) := by decide +kernel
theorem d_Pad_findFault_9 : decode b_Pad_findFault 9 = .ok (.istore 6, 2) := by decide +kernel
theorem d_Pad_findFault_11 : decode b_Pad_findFault 11 = .ok (.iload 6, 2) := by decide +kernel
theorem d_Pad_findFault_13 : decode b_Pad_findFault 13 = .ok (.aload_n 0, 1) := by decide +kernel
theorem d_Pad_findFault_14 : decode b_Pad_findFault 14 = .ok (.getfield 20, 3) := by decide +kernel
theorem d_Pad_findFault_17 : decode b_Pad_findFault 17 = .ok (.if_icmp .ge 103, 3) := by decide +kernel
theorem d_Pad_findFault_20 : decode b_Pad_findFault 20 = .ok (.aload_n 0, 1) := by decide +kernel
theorem d_Pad_findFault_21 : decode b_Pad_findFault 21 = .ok (.getfield 14, 3) := by decide +kernel
theorem d_Pad_findFault_24 : decode b_Pad_findFault 24 = .ok (.iload 6, 2) := by decide +kernel
theorem d_Pad_findFault_26 : decode b_Pad_findFault 26 = .ok (.invokevirtual 28, 3) := by decide +kernel
theorem d_Pad_findFault_29 : decode b_Pad_findFault 29 = .ok (.bipush 48, 2) := by decide +kernel
theorem d_Pad_findFault_31 : decode b_Pad_findFault 31 = .ok (.isub, 1) := by decide +kernel
theorem d_Pad_findFault_32 : decode b_Pad_findFault 32 = .ok (.istore 7, 2) := by decide +kernel
theorem d_Pad_findFault_34 : decode b_Pad_findFault 34 = .ok (.iload_n 3, 1) := by decide +kernel
theorem d_Pad_findFault_35 : decode b_Pad_findFault 35 = .ok (.iload_n 2, 1) := by decide +kernel
theorem d_Pad_findFault_36 : decode b_Pad_findFault 36 = .ok (.if_icmp .ge 41, 3) := by decide +kernel
theorem d_Pad_findFault_39 : decode b_Pad_findFault 39 = .ok (.iload 7, 2) := by decide +kernel
theorem d_Pad_findFault_41 : decode b_Pad_findFault 41 = .ok (.iload 4, 2) := by decide +kernel
theorem d_Pad_findFault_43 : decode b_Pad_findFault 43 = .ok (.iconst 1, 1) := by decide +kernel
theorem d_Pad_findFault_44 : decode b_Pad_findFault 44 = .ok (.iadd, 1) := by decide +kernel
theorem d_Pad_findFault_45 : decode b_Pad_findFault 45 = .ok (.iload_n 1, 1) := by decide +kernel
theorem d_Pad_findFault_46 : decode b_Pad_findFault 46 = .ok (.invokestatic 32, 3) := by decide +kernel
theorem d_Pad_findFault_49 : decode b_Pad_findFault 49 = .ok (.ifCond .eq 28, 3) := by decide +kernel
theorem d_Pad_findFault_52 : decode b_Pad_findFault 52 = .ok (.iinc 3 1, 3) := by decide +kernel
theorem d_Pad_findFault_55 : decode b_Pad_findFault 55 = .ok (.iload 7, 2) := by decide +kernel
theorem d_Pad_findFault_57 : decode b_Pad_findFault 57 = .ok (.istore 4, 2) := by decide +kernel
theorem d_Pad_findFault_59 : decode b_Pad_findFault 59 = .ok (.iload 5, 2) := by decide +kernel
theorem d_Pad_findFault_61 : decode b_Pad_findFault 61 = .ok (.iload_n 3, 1) := by decide +kernel
theorem d_Pad_findFault_62 : decode b_Pad_findFault 62 = .ok (.iload_n 2, 1) := by decide +kernel
theorem d_Pad_findFault_63 : decode b_Pad_findFault 63 = .ok (.if_icmp .ne 7, 3) := by decide +kernel
theorem d_Pad_findFault_66 : decode b_Pad_findFault 66 = .ok (.iconst 1, 1) := by decide +kernel
theorem d_Pad_findFault_67 : decode b_Pad_findFault 67 = .ok (.goto 4, 3) := by decide +kernel
theorem d_Pad_findFault_70 : decode b_Pad_findFault 70 = .ok (.iconst 0, 1) := by decide +kernel
theorem d_Pad_findFault_71 : decode b_Pad_findFault 71 = .ok (.iadd, 1) := by decide +kernel
theorem d_Pad_findFault_72 : decode b_Pad_findFault 72 = .ok (.istore 5, 2) := by decide +kernel
theorem d_Pad_findFault_74 : decode b_Pad_findFault 74 = .ok (.goto 40, 3) := by decide +kernel
theorem d_Pad_findFault_77 : decode b_Pad_findFault 77 = .ok (.iload_n 3, 1) := by decide +kernel
theorem d_Pad_findFault_78 : decode b_Pad_findFault 78 = .ok (.iload_n 2, 1) := by decide +kernel
theorem d_Pad_findFault_79 : decode b_Pad_findFault 79 = .ok (.if_icmp .ne 32, 3) := by decide +kernel
theorem d_Pad_findFault_82 : decode b_Pad_findFault 82 = .ok (.aload_n 0, 1) := by decide +kernel
theorem d_Pad_findFault_83 : decode b_Pad_findFault 83 = .ok (.getfield 14, 3) := by decide +kernel
theorem d_Pad_findFault_86 : decode b_Pad_findFault 86 = .ok (.iload 6, 2) := by decide +kernel
theorem d_Pad_findFault_88 : decode b_Pad_findFault 88 = .ok (.invokevirtual 28, 3) := by decide +kernel
theorem d_Pad_findFault_91 : decode b_Pad_findFault 91 = .ok (.bipush 59, 2) := by decide +kernel
theorem d_Pad_findFault_93 : decode b_Pad_findFault 93 = .ok (.if_icmp .ne 18, 3) := by decide +kernel
theorem d_Pad_findFault_96 : decode b_Pad_findFault 96 = .ok (.iload 5, 2) := by decide +kernel
theorem d_Pad_findFault_98 : decode b_Pad_findFault 98 = .ok (.bipush 6, 2) := by decide +kernel
theorem d_Pad_findFault_100 : decode b_Pad_findFault 100 = .ok (.if_icmp .ge 11, 3) := by decide +kernel
theorem d_Pad_findFault_103 : decode b_Pad_findFault 103 = .ok (.iconst 0, 1) := by decide +kernel
theorem d_Pad_findFault_104 : decode b_Pad_findFault 104 = .ok (.istore_n 3, 1) := by decide +kernel
theorem d_Pad_findFault_105 : decode b_Pad_findFault 105 = .ok (.iconst 0, 1) := by decide +kernel
theorem d_Pad_findFault_106 : decode b_Pad_findFault 106 = .ok (.istore 4, 2) := by decide +kernel
theorem d_Pad_findFault_108 : decode b_Pad_findFault 108 = .ok (.goto 6, 3) := by decide +kernel
theorem d_Pad_findFault_111 : decode b_Pad_findFault 111 = .ok (.iload 6, 2) := by decide +kernel
theorem d_Pad_findFault_113 : decode b_Pad_findFault 113 = .ok (.ireturn, 1) := by decide +kernel
theorem d_Pad_findFault_114 : decode b_Pad_findFault 114 = .ok (.iinc 6 1, 3) := by decide +kernel
theorem d_Pad_findFault_117 : decode b_Pad_findFault 117 = .ok (.goto (-106), 3) := by decide +kernel
theorem d_Pad_findFault_120 : decode b_Pad_findFault 120 = .ok (.aload_n 0, 1) := by decide +kernel
theorem d_Pad_findFault_121 : decode b_Pad_findFault 121 = .ok (.getfield 20, 3) := by decide +kernel
theorem d_Pad_findFault_124 : decode b_Pad_findFault 124 = .ok (.ifCond .eq 8, 3) := by decide +kernel
theorem d_Pad_findFault_127 : decode b_Pad_findFault 127 = .ok (.iload_n 3, 1) := by decide +kernel
theorem d_Pad_findFault_128 : decode b_Pad_findFault 128 = .ok (.iload_n 2, 1) := by decide +kernel
theorem d_Pad_findFault_129 : decode b_Pad_findFault 129 = .ok (.if_icmp .ne 8, 3) := by decide +kernel
theorem d_Pad_findFault_132 : decode b_Pad_findFault 132 = .ok (.bipush (-6), 2) := by decide +kernel
theorem d_Pad_findFault_134 : decode b_Pad_findFault 134 = .ok (.goto 7, 3) := by decide +kernel
theorem d_Pad_findFault_137 : decode b_Pad_findFault 137 = .ok (.aload_n 0, 1) := by decide +kernel
theorem d_Pad_findFault_138 : decode b_Pad_findFault 138 = .ok (.getfield 20, 3) := by decide +kernel
theorem d_Pad_findFault_141 : decode b_Pad_findFault 141 = .ok (.ireturn, 1) := by decide +kernel
theorem d_Main_tickets_0 : decode b_Main_tickets 0 = .ok (.aload_n 0, 1) := by decide +kernel
theorem d_Main_tickets_1 : decode b_Main_tickets 1 = .ok (.getfield 10, 3) := by decide +kernel
theorem d_Main_tickets_4 : decode b_Main_tickets 4 = .ok (.aload_n 0, 1) := by decide +kernel
theorem d_Main_tickets_5 : decode b_Main_tickets 5 = .ok (.getfield 19, 3) := by decide +kernel
theorem d_Main_tickets_8 : decode b_Main_tickets 8 = .ok (.getfield 79, 3) := by decide +kernel
theorem d_Main_tickets_11 : decode b_Main_tickets 11 = .ok (.aload_n 0, 1) := by decide +kernel
theorem d_Main_tickets_12 : decode b_Main_tickets 12 = .ok (.getfield 19, 3) := by decide +kernel
theorem d_Main_tickets_15 : decode b_Main_tickets 15 = .ok (.getfield 83, 3) := by decide +kernel
theorem d_Main_tickets_18 : decode b_Main_tickets 18 = .ok (.invokevirtual 86, 3) := by decide +kernel
theorem d_Main_tickets_21 : decode b_Main_tickets 21 = .ok (.bipush (-6), 2) := by decide +kernel
theorem d_Main_tickets_23 : decode b_Main_tickets 23 = .ok (.if_icmp .eq 6, 3) := by decide +kernel
theorem d_Main_tickets_26 : decode b_Main_tickets 26 = .ok (.bipush (-5), 2) := by decide +kernel
theorem d_Main_tickets_28 : decode b_Main_tickets 28 = .ok (.ireturn, 1) := by decide +kernel
theorem d_Main_tickets_29 : decode b_Main_tickets 29 = .ok (.aload_n 0, 1) := by decide +kernel
theorem d_Main_tickets_30 : decode b_Main_tickets 30 = .ok (.getfield 10, 3) := by decide +kernel
theorem d_Main_tickets_33 : decode b_Main_tickets 33 = .ok (.aload_n 0, 1) := by decide +kernel
theorem d_Main_tickets_34 : decode b_Main_tickets 34 = .ok (.getfield 19, 3) := by decide +kernel
theorem d_Main_tickets_37 : decode b_Main_tickets 37 = .ok (.invokevirtual 89, 3) := by decide +kernel
theorem d_Main_tickets_40 : decode b_Main_tickets 40 = .ok (.aload_n 0, 1) := by decide +kernel
theorem d_Main_tickets_41 : decode b_Main_tickets 41 = .ok (.getfield 26, 3) := by decide +kernel
theorem d_Main_tickets_44 : decode b_Main_tickets 44 = .ok (.aload_n 0, 1) := by decide +kernel
theorem d_Main_tickets_45 : decode b_Main_tickets 45 = .ok (.getfield 19, 3) := by decide +kernel
theorem d_Main_tickets_48 : decode b_Main_tickets 48 = .ok (.invokevirtual 58, 3) := by decide +kernel
theorem d_Main_tickets_51 : decode b_Main_tickets 51 = .ok (.aload_n 0, 1) := by decide +kernel
theorem d_Main_tickets_52 : decode b_Main_tickets 52 = .ok (.getfield 19, 3) := by decide +kernel
theorem d_Main_tickets_55 : decode b_Main_tickets 55 = .ok (.getfield 92, 3) := by decide +kernel
theorem d_Main_tickets_58 : decode b_Main_tickets 58 = .ok (.ireturn, 1) := by decide +kernel
theorem d_Pad_moveTo_0 : decode b_Pad_moveTo 0 = .ok (.aload_n 1, 1) := by decide +kernel
theorem d_Pad_moveTo_1 : decode b_Pad_moveTo 1 = .ok (.invokevirtual 36, 3) := by decide +kernel
theorem d_Pad_moveTo_4 : decode b_Pad_moveTo 4 = .ok (.iconst 0, 1) := by decide +kernel
theorem d_Pad_moveTo_5 : decode b_Pad_moveTo 5 = .ok (.istore_n 2, 1) := by decide +kernel
theorem d_Pad_moveTo_6 : decode b_Pad_moveTo 6 = .ok (.iconst 0, 1) := by decide +kernel
theorem d_Pad_moveTo_7 : decode b_Pad_moveTo 7 = .ok (.istore_n 3, 1) := by decide +kernel
theorem d_Pad_moveTo_8 : decode b_Pad_moveTo 8 = .ok (.iload_n 3, 1) := by decide +kernel
theorem d_Pad_moveTo_9 : decode b_Pad_moveTo 9 = .ok (.aload_n 0, 1) := by decide +kernel
theorem d_Pad_moveTo_10 : decode b_Pad_moveTo 10 = .ok (.getfield 20, 3) := by decide +kernel
theorem d_Pad_moveTo_13 : decode b_Pad_moveTo 13 = .ok (.if_icmp .ge 48, 3) := by decide +kernel
theorem d_Pad_moveTo_16 : decode b_Pad_moveTo 16 = .ok (.aload_n 0, 1) := by decide +kernel
theorem d_Pad_moveTo_17 : decode b_Pad_moveTo 17 = .ok (.getfield 14, 3) := by decide +kernel
theorem d_Pad_moveTo_20 : decode b_Pad_moveTo 20 = .ok (.iload_n 3, 1) := by decide +kernel
theorem d_Pad_moveTo_21 : decode b_Pad_moveTo 21 = .ok (.invokevirtual 28, 3) := by decide +kernel
theorem d_Pad_moveTo_24 : decode b_Pad_moveTo 24 = .ok (.bipush 59, 2) := by decide +kernel
theorem d_Pad_moveTo_26 : decode b_Pad_moveTo 26 = .ok (.if_icmp .ne 13, 3) := by decide +kernel
theorem d_Pad_moveTo_29 : decode b_Pad_moveTo 29 = .ok (.aload_n 1, 1) := by decide +kernel
theorem d_Pad_moveTo_30 : decode b_Pad_moveTo 30 = .ok (.iload_n 2, 1) := by decide +kernel
theorem d_Pad_moveTo_31 : decode b_Pad_moveTo 31 = .ok (.invokevirtual 41, 3) := by decide +kernel
theorem d_Pad_moveTo_34 : decode b_Pad_moveTo 34 = .ok (.iconst 0, 1) := by decide +kernel
theorem d_Pad_moveTo_35 : decode b_Pad_moveTo 35 = .ok (.istore_n 2, 1) := by decide +kernel
theorem d_Pad_moveTo_36 : decode b_Pad_moveTo 36 = .ok (.goto 19, 3) := by decide +kernel
theorem d_Pad_moveTo_39 : decode b_Pad_moveTo 39 = .ok (.iload_n 2, 1) := by decide +kernel
theorem d_Pad_moveTo_40 : decode b_Pad_moveTo 40 = .ok (.iconst 1, 1) := by decide +kernel
theorem d_Pad_moveTo_41 : decode b_Pad_moveTo 41 = .ok (.aload_n 0, 1) := by decide +kernel
theorem d_Pad_moveTo_42 : decode b_Pad_moveTo 42 = .ok (.getfield 14, 3) := by decide +kernel
theorem d_Pad_moveTo_45 : decode b_Pad_moveTo 45 = .ok (.iload_n 3, 1) := by decide +kernel
theorem d_Pad_moveTo_46 : decode b_Pad_moveTo 46 = .ok (.invokevirtual 28, 3) := by decide +kernel
theorem d_Pad_moveTo_49 : decode b_Pad_moveTo 49 = .ok (.bipush 49, 2) := by decide +kernel
theorem d_Pad_moveTo_51 : decode b_Pad_moveTo 51 = .ok (.isub, 1) := by decide +kernel
theorem d_Pad_moveTo_52 : decode b_Pad_moveTo 52 = .ok (.ishl, 1) := by decide +kernel
theorem d_Pad_moveTo_53 : decode b_Pad_moveTo 53 = .ok (.ior, 1) := by decide +kernel
theorem d_Pad_moveTo_54 : decode b_Pad_moveTo 54 = .ok (.istore_n 2, 1) := by decide +kernel
theorem d_Pad_moveTo_55 : decode b_Pad_moveTo 55 = .ok (.iinc 3 1, 3) := by decide +kernel
theorem d_Pad_moveTo_58 : decode b_Pad_moveTo 58 = .ok (.goto (-50), 3) := by decide +kernel
theorem d_Pad_moveTo_61 : decode b_Pad_moveTo 61 = .ok (.aload_n 0, 1) := by decide +kernel
theorem d_Pad_moveTo_62 : decode b_Pad_moveTo 62 = .ok (.getfield 20, 3) := by decide +kernel
theorem d_Pad_moveTo_65 : decode b_Pad_moveTo 65 = .ok (.ifCond .le 8, 3) := by decide +kernel
theorem d_Pad_moveTo_68 : decode b_Pad_moveTo 68 = .ok (.aload_n 1, 1) := by decide +kernel
theorem d_Pad_moveTo_69 : decode b_Pad_moveTo 69 = .ok (.iload_n 2, 1) := by decide +kernel
theorem d_Pad_moveTo_70 : decode b_Pad_moveTo 70 = .ok (.invokevirtual 41, 3) := by decide +kernel
theorem d_Pad_moveTo_73 : decode b_Pad_moveTo 73 = .ok (.aload_n 0, 1) := by decide +kernel
theorem d_Pad_moveTo_74 : decode b_Pad_moveTo 74 = .ok (.invokevirtual 44, 3) := by decide +kernel
theorem d_Pad_moveTo_77 : decode b_Pad_moveTo 77 = .ok (.return_, 1) := by decide +kernel
theorem d_Play_addTicket_0 : decode b_Play_addTicket 0 = .ok (.aload_n 0, 1) := by decide +kernel
theorem d_Play_addTicket_1 : decode b_Play_addTicket 1 = .ok (.getfield 14, 3) := by decide +kernel
theorem d_Play_addTicket_4 : decode b_Play_addTicket 4 = .ok (.aload_n 0, 1) := by decide +kernel
theorem d_Play_addTicket_5 : decode b_Play_addTicket 5 = .ok (.getfield 55, 3) := by decide +kernel
theorem d_Play_addTicket_8 : decode b_Play_addTicket 8 = .ok (.iload_n 1, 1) := by decide +kernel
theorem d_Play_addTicket_9 : decode b_Play_addTicket 9 = .ok (.invokevirtual 61, 3) := by decide +kernel
theorem d_Play_addTicket_12 : decode b_Play_addTicket 12 = .ok (.aload_n 0, 1) := by decide +kernel
theorem d_Play_addTicket_13 : decode b_Play_addTicket 13 = .ok (.dup, 1) := by decide +kernel
theorem d_Play_addTicket_14 : decode b_Play_addTicket 14 = .ok (.getfield 55, 3) := by decide +kernel
theorem d_Play_addTicket_17 : decode b_Play_addTicket 17 = .ok (.iconst 1, 1) := by decide +kernel
theorem d_Play_addTicket_18 : decode b_Play_addTicket 18 = .ok (.iadd, 1) := by decide +kernel
theorem d_Play_addTicket_19 : decode b_Play_addTicket 19 = .ok (.putfield 55, 3) := by decide +kernel
theorem d_Play_addTicket_22 : decode b_Play_addTicket 22 = .ok (.return_, 1) := by decide +kernel
theorem d_Main_ticket_0 : decode b_Main_ticket 0 = .ok (.aload_n 0, 1) := by decide +kernel
theorem d_Main_ticket_1 : decode b_Main_ticket 1 = .ok (.getfield 19, 3) := by decide +kernel
theorem d_Main_ticket_4 : decode b_Main_ticket 4 = .ok (.iload_n 1, 1) := by decide +kernel
theorem d_Main_ticket_5 : decode b_Main_ticket 5 = .ok (.invokevirtual 95, 3) := by decide +kernel
theorem d_Main_ticket_8 : decode b_Main_ticket 8 = .ok (.ifCond .eq 17, 3) := by decide +kernel
theorem d_Main_ticket_11 : decode b_Main_ticket 11 = .ok (.aload_n 0, 1) := by decide +kernel
theorem d_Main_ticket_12 : decode b_Main_ticket 12 = .ok (.getfield 19, 3) := by decide +kernel
theorem d_Main_ticket_15 : decode b_Main_ticket 15 = .ok (.getfield 99, 3) := by decide +kernel
theorem d_Main_ticket_18 : decode b_Main_ticket 18 = .ok (.iload_n 1, 1) := by decide +kernel
theorem d_Main_ticket_19 : decode b_Main_ticket 19 = .ok (.invokevirtual 103, 3) := by decide +kernel
theorem d_Main_ticket_22 : decode b_Main_ticket 22 = .ok (.goto 4, 3) := by decide +kernel
theorem d_Main_ticket_25 : decode b_Main_ticket 25 = .ok (.iconst (-1), 1) := by decide +kernel
theorem d_Main_ticket_26 : decode b_Main_ticket 26 = .ok (.ireturn, 1) := by decide +kernel
theorem d_Play_hasTicket_0 : decode b_Play_hasTicket 0 = .ok (.iload_n 1, 1) := by decide +kernel
theorem d_Play_hasTicket_1 : decode b_Play_hasTicket 1 = .ok (.iconst 0, 1) := by decide +kernel
theorem d_Play_hasTicket_2 : decode b_Play_hasTicket 2 = .ok (.aload_n 0, 1) := by decide +kernel
theorem d_Play_hasTicket_3 : decode b_Play_hasTicket 3 = .ok (.getfield 55, 3) := by decide +kernel
theorem d_Play_hasTicket_6 : decode b_Play_hasTicket 6 = .ok (.iconst 1, 1) := by decide +kernel
theorem d_Play_hasTicket_7 : decode b_Play_hasTicket 7 = .ok (.isub, 1) := by decide +kernel
theorem d_Play_hasTicket_8 : decode b_Play_hasTicket 8 = .ok (.invokestatic 83, 3) := by decide +kernel
theorem d_Play_hasTicket_11 : decode b_Play_hasTicket 11 = .ok (.ireturn, 1) := by decide +kernel
theorem d_Main_fond_0 : decode b_Main_fond 0 = .ok (.aload_n 0, 1) := by decide +kernel
theorem d_Main_fond_1 : decode b_Main_fond 1 = .ok (.getfield 19, 3) := by decide +kernel
theorem d_Main_fond_4 : decode b_Main_fond 4 = .ok (.iload_n 1, 1) := by decide +kernel
theorem d_Main_fond_5 : decode b_Main_fond 5 = .ok (.invokevirtual 109, 3) := by decide +kernel
theorem d_Main_fond_8 : decode b_Main_fond 8 = .ok (.ifCond .eq 17, 3) := by decide +kernel
theorem d_Main_fond_11 : decode b_Main_fond 11 = .ok (.iload_n 1, 1) := by decide +kernel
theorem d_Main_fond_12 : decode b_Main_fond 12 = .ok (.invokestatic 112, 3) := by decide +kernel
theorem d_Main_fond_15 : decode b_Main_fond 15 = .ok (.aload_n 0, 1) := by decide +kernel
theorem d_Main_fond_16 : decode b_Main_fond 16 = .ok (.getfield 19, 3) := by decide +kernel
theorem d_Main_fond_19 : decode b_Main_fond 19 = .ok (.getfield 83, 3) := by decide +kernel
theorem d_Main_fond_22 : decode b_Main_fond 22 = .ok (.if_icmp .le 6, 3) := by decide +kernel
theorem d_Main_fond_25 : decode b_Main_fond 25 = .ok (.bipush (-2), 2) := by decide +kernel
theorem d_Main_fond_27 : decode b_Main_fond 27 = .ok (.ireturn, 1) := by decide +kernel
theorem d_Main_fond_28 : decode b_Main_fond 28 = .ok (.aload_n 0, 1) := by decide +kernel
theorem d_Main_fond_29 : decode b_Main_fond 29 = .ok (.getfield 19, 3) := by decide +kernel
theorem d_Main_fond_32 : decode b_Main_fond 32 = .ok (.getfield 117, 3) := by decide +kernel
theorem d_Main_fond_35 : decode b_Main_fond 35 = .ok (.istore_n 2, 1) := by decide +kernel
theorem d_Main_fond_36 : decode b_Main_fond 36 = .ok (.aload_n 0, 1) := by decide +kernel
theorem d_Main_fond_37 : decode b_Main_fond 37 = .ok (.getfield 19, 3) := by decide +kernel
theorem d_Main_fond_40 : decode b_Main_fond 40 = .ok (.iload_n 1, 1) := by decide +kernel
theorem d_Main_fond_41 : decode b_Main_fond 41 = .ok (.putfield 117, 3) := by decide +kernel
theorem d_Main_fond_44 : decode b_Main_fond 44 = .ok (.aload_n 0, 1) := by decide +kernel
theorem d_Main_fond_45 : decode b_Main_fond 45 = .ok (.getfield 26, 3) := by decide +kernel
theorem d_Main_fond_48 : decode b_Main_fond 48 = .ok (.aload_n 0, 1) := by decide +kernel
theorem d_Main_fond_49 : decode b_Main_fond 49 = .ok (.getfield 19, 3) := by decide +kernel
theorem d_Main_fond_52 : decode b_Main_fond 52 = .ok (.invokevirtual 40, 3) := by decide +kernel
theorem d_Main_fond_55 : decode b_Main_fond 55 = .ok (.iload_n 2, 1) := by decide +kernel
theorem d_Main_fond_56 : decode b_Main_fond 56 = .ok (.ireturn, 1) := by decide +kernel
theorem d_Play_isOfNumbers_0 : decode b_Play_isOfNumbers 0 = .ok (.iload_n 1, 1) := by decide +kernel
theorem d_Play_isOfNumbers_1 : decode b_Play_isOfNumbers 1 = .ok (.aload_n 0, 1) := by decide +kernel
theorem d_Play_isOfNumbers_2 : decode b_Play_isOfNumbers 2 = .ok (.invokevirtual 65, 3) := by decide +kernel
theorem d_Play_isOfNumbers_5 : decode b_Play_isOfNumbers 5 = .ok (.invokestatic 69, 3) := by decide +kernel
theorem d_Play_isOfNumbers_8 : decode b_Play_isOfNumbers 8 = .ok (.ireturn, 1) := by decide +kernel
theorem d_Play_allNumbers_0 : decode b_Play_allNumbers 0 = .ok (.iconst 1, 1) := by decide +kernel
theorem d_Play_allNumbers_1 : decode b_Play_allNumbers 1 = .ok (.aload_n 0, 1) := by decide +kernel
theorem d_Play_allNumbers_2 : decode b_Play_allNumbers 2 = .ok (.getfield 36, 3) := by decide +kernel
theorem d_Play_allNumbers_5 : decode b_Play_allNumbers 5 = .ok (.ishl, 1) := by decide +kernel
theorem d_Play_allNumbers_6 : decode b_Play_allNumbers 6 = .ok (.iconst 1, 1) := by decide +kernel
theorem d_Play_allNumbers_7 : decode b_Play_allNumbers 7 = .ok (.isub, 1) := by decide +kernel
theorem d_Play_allNumbers_8 : decode b_Play_allNumbers 8 = .ok (.ireturn, 1) := by decide +kernel
theorem d_Main_right_0 : decode b_Main_right 0 = .ok (.aload_n 0, 1) := by decide +kernel
theorem d_Main_right_1 : decode b_Main_right 1 = .ok (.getfield 19, 3) := by decide +kernel
theorem d_Main_right_4 : decode b_Main_right 4 = .ok (.iload_n 1, 1) := by decide +kernel
theorem d_Main_right_5 : decode b_Main_right 5 = .ok (.invokevirtual 95, 3) := by decide +kernel
theorem d_Main_right_8 : decode b_Main_right 8 = .ok (.ifCond .ne 5, 3) := by decide +kernel
theorem d_Main_right_11 : decode b_Main_right 11 = .ok (.iconst (-1), 1) := by decide +kernel
theorem d_Main_right_12 : decode b_Main_right 12 = .ok (.ireturn, 1) := by decide +kernel
theorem d_Main_right_13 : decode b_Main_right 13 = .ok (.aload_n 0, 1) := by decide +kernel
theorem d_Main_right_14 : decode b_Main_right 14 = .ok (.getfield 19, 3) := by decide +kernel
theorem d_Main_right_17 : decode b_Main_right 17 = .ok (.iload_n 2, 1) := by decide +kernel
theorem d_Main_right_18 : decode b_Main_right 18 = .ok (.invokevirtual 120, 3) := by decide +kernel
theorem d_Main_right_21 : decode b_Main_right 21 = .ok (.ifCond .ne 6, 3) := by decide +kernel
theorem d_Main_right_24 : decode b_Main_right 24 = .ok (.bipush (-2), 2) := by decide +kernel
theorem d_Main_right_26 : decode b_Main_right 26 = .ok (.ireturn, 1) := by decide +kernel
theorem d_Main_right_27 : decode b_Main_right 27 = .ok (.aload_n 0, 1) := by decide +kernel
theorem d_Main_right_28 : decode b_Main_right 28 = .ok (.getfield 19, 3) := by decide +kernel
theorem d_Main_right_31 : decode b_Main_right 31 = .ok (.iload_n 1, 1) := by decide +kernel
theorem d_Main_right_32 : decode b_Main_right 32 = .ok (.iload_n 2, 1) := by decide +kernel
theorem d_Main_right_33 : decode b_Main_right 33 = .ok (.invokevirtual 123, 3) := by decide +kernel
theorem d_Main_right_36 : decode b_Main_right 36 = .ok (.ireturn, 1) := by decide +kernel
theorem d_Play_isDraw_0 : decode b_Play_isDraw 0 = .ok (.aload_n 0, 1) := by decide +kernel
theorem d_Play_isDraw_1 : decode b_Play_isDraw 1 = .ok (.iload_n 1, 1) := by decide +kernel
theorem d_Play_isDraw_2 : decode b_Play_isDraw 2 = .ok (.invokevirtual 73, 3) := by decide +kernel
theorem d_Play_isDraw_5 : decode b_Play_isDraw 5 = .ok (.ifCond .eq 18, 3) := by decide +kernel
theorem d_Play_isDraw_8 : decode b_Play_isDraw 8 = .ok (.iload_n 1, 1) := by decide +kernel
theorem d_Play_isDraw_9 : decode b_Play_isDraw 9 = .ok (.invokestatic 77, 3) := by decide +kernel
theorem d_Play_isDraw_12 : decode b_Play_isDraw 12 = .ok (.aload_n 0, 1) := by decide +kernel
theorem d_Play_isDraw_13 : decode b_Play_isDraw 13 = .ok (.getfield 43, 3) := by decide +kernel
theorem d_Play_isDraw_16 : decode b_Play_isDraw 16 = .ok (.if_icmp .ne 7, 3) := by decide +kernel
theorem d_Play_isDraw_19 : decode b_Play_isDraw 19 = .ok (.iconst 1, 1) := by decide +kernel
theorem d_Play_isDraw_20 : decode b_Play_isDraw 20 = .ok (.goto 4, 3) := by decide +kernel
theorem d_Play_isDraw_23 : decode b_Play_isDraw 23 = .ok (.iconst 0, 1) := by decide +kernel
theorem d_Play_isDraw_24 : decode b_Play_isDraw 24 = .ok (.ireturn, 1) := by decide +kernel
theorem d_Play_countRight_0 : decode b_Play_countRight 0 = .ok (.aload_n 0, 1) := by decide +kernel
theorem d_Play_countRight_1 : decode b_Play_countRight 1 = .ok (.getfield 14, 3) := by decide +kernel
theorem d_Play_countRight_4 : decode b_Play_countRight 4 = .ok (.iload_n 1, 1) := by decide +kernel
theorem d_Play_countRight_5 : decode b_Play_countRight 5 = .ok (.invokevirtual 87, 3) := by decide +kernel
theorem d_Play_countRight_8 : decode b_Play_countRight 8 = .ok (.iload_n 2, 1) := by decide +kernel
theorem d_Play_countRight_9 : decode b_Play_countRight 9 = .ok (.iand, 1) := by decide +kernel
theorem d_Play_countRight_10 : decode b_Play_countRight 10 = .ok (.invokestatic 77, 3) := by decide +kernel
theorem d_Play_countRight_13 : decode b_Play_countRight 13 = .ok (.ireturn, 1) := by decide +kernel
theorem d_Main_won_0 : decode b_Main_won 0 = .ok (.iload_n 1, 1) := by decide +kernel
theorem d_Main_won_1 : decode b_Main_won 1 = .ok (.tableswitch 61 0 2 #[27, 42, 53], 27) := by decide +kernel
theorem d_Main_won_28 : decode b_Main_won 28 = .ok (.aload_n 0, 1) := by decide +kernel
theorem d_Main_won_29 : decode b_Main_won 29 = .ok (.getfield 26, 3) := by decide +kernel
theorem d_Main_won_32 : decode b_Main_won 32 = .ok (.aload_n 0, 1) := by decide +kernel
theorem d_Main_won_33 : decode b_Main_won 33 = .ok (.getfield 26, 3) := by decide +kernel
theorem d_Main_won_36 : decode b_Main_won 36 = .ok (.invokevirtual 126, 3) := by decide +kernel
theorem d_Main_won_39 : decode b_Main_won 39 = .ok (.invokevirtual 129, 3) := by decide +kernel
theorem d_Main_won_42 : decode b_Main_won 42 = .ok (.ireturn, 1) := by decide +kernel
theorem d_Main_won_43 : decode b_Main_won 43 = .ok (.aload_n 0, 1) := by decide +kernel
theorem d_Main_won_44 : decode b_Main_won 44 = .ok (.getfield 26, 3) := by decide +kernel
theorem d_Main_won_47 : decode b_Main_won 47 = .ok (.getfield 61, 3) := by decide +kernel
theorem d_Main_won_50 : decode b_Main_won 50 = .ok (.invokevirtual 65, 3) := by decide +kernel
theorem d_Main_won_53 : decode b_Main_won 53 = .ok (.ireturn, 1) := by decide +kernel
theorem d_Main_won_54 : decode b_Main_won 54 = .ok (.aload_n 0, 1) := by decide +kernel
theorem d_Main_won_55 : decode b_Main_won 55 = .ok (.getfield 26, 3) := by decide +kernel
theorem d_Main_won_58 : decode b_Main_won 58 = .ok (.invokevirtual 132, 3) := by decide +kernel
theorem d_Main_won_61 : decode b_Main_won 61 = .ok (.ireturn, 1) := by decide +kernel
theorem d_Main_won_62 : decode b_Main_won 62 = .ok (.bipush (-2), 2) := by decide +kernel
theorem d_Main_won_64 : decode b_Main_won 64 = .ok (.ireturn, 1) := by decide +kernel
theorem d_Wheel_allTickets_0 : decode b_Wheel_allTickets 0 = .ok (.iconst 1, 1) := by decide +kernel
theorem d_Wheel_allTickets_1 : decode b_Wheel_allTickets 1 = .ok (.aload_n 0, 1) := by decide +kernel
theorem d_Wheel_allTickets_2 : decode b_Wheel_allTickets 2 = .ok (.getfield 89, 3) := by decide +kernel
theorem d_Wheel_allTickets_5 : decode b_Wheel_allTickets 5 = .ok (.ishl, 1) := by decide +kernel
theorem d_Wheel_allTickets_6 : decode b_Wheel_allTickets 6 = .ok (.iconst 1, 1) := by decide +kernel
theorem d_Wheel_allTickets_7 : decode b_Wheel_allTickets 7 = .ok (.isub, 1) := by decide +kernel
theorem d_Wheel_allTickets_8 : decode b_Wheel_allTickets 8 = .ok (.ireturn, 1) := by decide +kernel
theorem d_Wheel_countWon_0 : decode b_Wheel_countWon 0 = .ok (.aload_n 0, 1) := by decide +kernel
theorem d_Wheel_countWon_1 : decode b_Wheel_countWon 1 = .ok (.iload_n 1, 1) := by decide +kernel
theorem d_Wheel_countWon_2 : decode b_Wheel_countWon 2 = .ok (.invokevirtual 117, 3) := by decide +kernel
theorem d_Wheel_countWon_5 : decode b_Wheel_countWon 5 = .ok (.aload_n 0, 1) := by decide +kernel
theorem d_Wheel_countWon_6 : decode b_Wheel_countWon 6 = .ok (.getfield 33, 3) := by decide +kernel
theorem d_Wheel_countWon_9 : decode b_Wheel_countWon 9 = .ok (.iconst 0, 1) := by decide +kernel
theorem d_Wheel_countWon_10 : decode b_Wheel_countWon 10 = .ok (.invokevirtual 110, 3) := by decide +kernel
theorem d_Wheel_countWon_13 : decode b_Wheel_countWon 13 = .ok (.ireturn, 1) := by decide +kernel
theorem d_Wheel_joinHeld_0 : decode b_Wheel_joinHeld 0 = .ok (.aload_n 0, 1) := by decide +kernel
theorem d_Wheel_joinHeld_1 : decode b_Wheel_joinHeld 1 = .ok (.getfield 33, 3) := by decide +kernel
theorem d_Wheel_joinHeld_4 : decode b_Wheel_joinHeld 4 = .ok (.iconst 0, 1) := by decide +kernel
theorem d_Wheel_joinHeld_5 : decode b_Wheel_joinHeld 5 = .ok (.invokevirtual 99, 3) := by decide +kernel
theorem d_Wheel_joinHeld_8 : decode b_Wheel_joinHeld 8 = .ok (.iconst 0, 1) := by decide +kernel
theorem d_Wheel_joinHeld_9 : decode b_Wheel_joinHeld 9 = .ok (.istore_n 2, 1) := by decide +kernel
theorem d_Wheel_joinHeld_10 : decode b_Wheel_joinHeld 10 = .ok (.iload_n 2, 1) := by decide +kernel
theorem d_Wheel_joinHeld_11 : decode b_Wheel_joinHeld 11 = .ok (.aload_n 0, 1) := by decide +kernel
theorem d_Wheel_joinHeld_12 : decode b_Wheel_joinHeld 12 = .ok (.getfield 89, 3) := by decide +kernel
theorem d_Wheel_joinHeld_15 : decode b_Wheel_joinHeld 15 = .ok (.if_icmp .ge 31, 3) := by decide +kernel
theorem d_Wheel_joinHeld_18 : decode b_Wheel_joinHeld 18 = .ok (.iload_n 1, 1) := by decide +kernel
theorem d_Wheel_joinHeld_19 : decode b_Wheel_joinHeld 19 = .ok (.iload_n 2, 1) := by decide +kernel
theorem d_Wheel_joinHeld_20 : decode b_Wheel_joinHeld 20 = .ok (.ishr, 1) := by decide +kernel
theorem d_Wheel_joinHeld_21 : decode b_Wheel_joinHeld 21 = .ok (.iconst 1, 1) := by decide +kernel
theorem d_Wheel_joinHeld_22 : decode b_Wheel_joinHeld 22 = .ok (.iand, 1) := by decide +kernel
theorem d_Wheel_joinHeld_23 : decode b_Wheel_joinHeld 23 = .ok (.ifCond .eq 17, 3) := by decide +kernel
theorem d_Wheel_joinHeld_26 : decode b_Wheel_joinHeld 26 = .ok (.aload_n 0, 1) := by decide +kernel
theorem d_Wheel_joinHeld_27 : decode b_Wheel_joinHeld 27 = .ok (.getfield 33, 3) := by decide +kernel
theorem d_Wheel_joinHeld_30 : decode b_Wheel_joinHeld 30 = .ok (.iconst 0, 1) := by decide +kernel
theorem d_Wheel_joinHeld_31 : decode b_Wheel_joinHeld 31 = .ok (.iconst 0, 1) := by decide +kernel
theorem d_Wheel_joinHeld_32 : decode b_Wheel_joinHeld 32 = .ok (.aload_n 0, 1) := by decide +kernel
theorem d_Wheel_joinHeld_33 : decode b_Wheel_joinHeld 33 = .ok (.getfield 30, 3) := by decide +kernel
theorem d_Wheel_joinHeld_36 : decode b_Wheel_joinHeld 36 = .ok (.iload_n 2, 1) := by decide +kernel
theorem d_Wheel_joinHeld_37 : decode b_Wheel_joinHeld 37 = .ok (.invokevirtual 113, 3) := by decide +kernel
theorem d_Wheel_joinHeld_40 : decode b_Wheel_joinHeld 40 = .ok (.iinc 2 1, 3) := by decide +kernel
theorem d_Wheel_joinHeld_43 : decode b_Wheel_joinHeld 43 = .ok (.goto (-33), 3) := by decide +kernel
theorem d_Wheel_joinHeld_46 : decode b_Wheel_joinHeld 46 = .ok (.return_, 1) := by decide +kernel
theorem d_DrawSets_join_0 : decode b_DrawSets_join 0 = .ok (.aload_n 0, 1) := by decide +kernel
theorem d_DrawSets_join_1 : decode b_DrawSets_join 1 = .ok (.iload_n 1, 1) := by decide +kernel
theorem d_DrawSets_join_2 : decode b_DrawSets_join 2 = .ok (.aload_n 0, 1) := by decide +kernel
theorem d_DrawSets_join_3 : decode b_DrawSets_join 3 = .ok (.iload_n 2, 1) := by decide +kernel
theorem d_DrawSets_join_4 : decode b_DrawSets_join 4 = .ok (.invokevirtual 26, 3) := by decide +kernel
theorem d_DrawSets_join_7 : decode b_DrawSets_join 7 = .ok (.aload_n 3, 1) := by decide +kernel
theorem d_DrawSets_join_8 : decode b_DrawSets_join 8 = .ok (.iload 4, 2) := by decide +kernel
theorem d_DrawSets_join_10 : decode b_DrawSets_join 10 = .ok (.invokevirtual 26, 3) := by decide +kernel
theorem d_DrawSets_join_13 : decode b_DrawSets_join 13 = .ok (.lor, 1) := by decide +kernel
theorem d_DrawSets_join_14 : decode b_DrawSets_join 14 = .ok (.aload_n 0, 1) := by decide +kernel
theorem d_DrawSets_join_15 : decode b_DrawSets_join 15 = .ok (.iload_n 2, 1) := by decide +kernel
theorem d_DrawSets_join_16 : decode b_DrawSets_join 16 = .ok (.invokevirtual 30, 3) := by decide +kernel
theorem d_DrawSets_join_19 : decode b_DrawSets_join 19 = .ok (.aload_n 3, 1) := by decide +kernel
theorem d_DrawSets_join_20 : decode b_DrawSets_join 20 = .ok (.iload 4, 2) := by decide +kernel
theorem d_DrawSets_join_22 : decode b_DrawSets_join 22 = .ok (.invokevirtual 30, 3) := by decide +kernel
theorem d_DrawSets_join_25 : decode b_DrawSets_join 25 = .ok (.lor, 1) := by decide +kernel
theorem d_DrawSets_join_26 : decode b_DrawSets_join 26 = .ok (.invokevirtual 22, 3) := by decide +kernel
theorem d_DrawSets_join_29 : decode b_DrawSets_join 29 = .ok (.return_, 1) := by decide +kernel
theorem d_Wheel_firstMissed_0 : decode b_Wheel_firstMissed 0 = .ok (.aload_n 0, 1) := by decide +kernel
theorem d_Wheel_firstMissed_1 : decode b_Wheel_firstMissed 1 = .ok (.aload_n 0, 1) := by decide +kernel
theorem d_Wheel_firstMissed_2 : decode b_Wheel_firstMissed 2 = .ok (.invokevirtual 120, 3) := by decide +kernel
theorem d_Wheel_firstMissed_5 : decode b_Wheel_firstMissed 5 = .ok (.invokevirtual 117, 3) := by decide +kernel
theorem d_Wheel_firstMissed_8 : decode b_Wheel_firstMissed 8 = .ok (.iconst 0, 1) := by decide +kernel
theorem d_Wheel_firstMissed_9 : decode b_Wheel_firstMissed 9 = .ok (.istore_n 1, 1) := by decide +kernel
theorem d_Wheel_firstMissed_10 : decode b_Wheel_firstMissed 10 = .ok (.iload_n 1, 1) := by decide +kernel
theorem d_Wheel_firstMissed_11 : decode b_Wheel_firstMissed 11 = .ok (.aload_n 0, 1) := by decide +kernel
theorem d_Wheel_firstMissed_12 : decode b_Wheel_firstMissed 12 = .ok (.getfield 12, 3) := by decide +kernel
theorem d_Wheel_firstMissed_15 : decode b_Wheel_firstMissed 15 = .ok (.invokevirtual 64, 3) := by decide +kernel
theorem d_Wheel_firstMissed_18 : decode b_Wheel_firstMissed 18 = .ok (.if_icmp .ge 30, 3) := by decide +kernel
theorem d_Wheel_firstMissed_21 : decode b_Wheel_firstMissed 21 = .ok (.aload_n 0, 1) := by decide +kernel
theorem d_Wheel_firstMissed_22 : decode b_Wheel_firstMissed 22 = .ok (.getfield 33, 3) := by decide +kernel
theorem d_Wheel_firstMissed_25 : decode b_Wheel_firstMissed 25 = .ok (.iconst 0, 1) := by decide +kernel
theorem d_Wheel_firstMissed_26 : decode b_Wheel_firstMissed 26 = .ok (.iload_n 1, 1) := by decide +kernel
theorem d_Wheel_firstMissed_27 : decode b_Wheel_firstMissed 27 = .ok (.invokevirtual 123, 3) := by decide +kernel
theorem d_Wheel_firstMissed_30 : decode b_Wheel_firstMissed 30 = .ok (.ifCond .ne 12, 3) := by decide +kernel
theorem d_Wheel_firstMissed_33 : decode b_Wheel_firstMissed 33 = .ok (.aload_n 0, 1) := by decide +kernel
theorem d_Wheel_firstMissed_34 : decode b_Wheel_firstMissed 34 = .ok (.getfield 12, 3) := by decide +kernel
theorem d_Wheel_firstMissed_37 : decode b_Wheel_firstMissed 37 = .ok (.iload_n 1, 1) := by decide +kernel
theorem d_Wheel_firstMissed_38 : decode b_Wheel_firstMissed 38 = .ok (.invokevirtual 68, 3) := by decide +kernel
theorem d_Wheel_firstMissed_41 : decode b_Wheel_firstMissed 41 = .ok (.ireturn, 1) := by decide +kernel
theorem d_Wheel_firstMissed_42 : decode b_Wheel_firstMissed 42 = .ok (.iinc 1 1, 3) := by decide +kernel
theorem d_Wheel_firstMissed_45 : decode b_Wheel_firstMissed 45 = .ok (.goto (-35), 3) := by decide +kernel
theorem d_Wheel_firstMissed_48 : decode b_Wheel_firstMissed 48 = .ok (.bipush (-6), 2) := by decide +kernel
theorem d_Wheel_firstMissed_50 : decode b_Wheel_firstMissed 50 = .ok (.ireturn, 1) := by decide +kernel
theorem d_DrawSets_has_0 : decode b_DrawSets_has 0 = .ok (.iload_n 2, 1) := by decide +kernel
theorem d_DrawSets_has_1 : decode b_DrawSets_has 1 = .ok (.bipush 64, 2) := by decide +kernel
theorem d_DrawSets_has_3 : decode b_DrawSets_has 3 = .ok (.if_icmp .ge 13, 3) := by decide +kernel
theorem d_DrawSets_has_6 : decode b_DrawSets_has 6 = .ok (.aload_n 0, 1) := by decide +kernel
theorem d_DrawSets_has_7 : decode b_DrawSets_has 7 = .ok (.iload_n 1, 1) := by decide +kernel
theorem d_DrawSets_has_8 : decode b_DrawSets_has 8 = .ok (.invokevirtual 26, 3) := by decide +kernel
theorem d_DrawSets_has_11 : decode b_DrawSets_has 11 = .ok (.iload_n 2, 1) := by decide +kernel
theorem d_DrawSets_has_12 : decode b_DrawSets_has 12 = .ok (.lushr, 1) := by decide +kernel
theorem d_DrawSets_has_13 : decode b_DrawSets_has 13 = .ok (.goto 13, 3) := by decide +kernel
theorem d_DrawSets_has_16 : decode b_DrawSets_has 16 = .ok (.aload_n 0, 1) := by decide +kernel
theorem d_DrawSets_has_17 : decode b_DrawSets_has 17 = .ok (.iload_n 1, 1) := by decide +kernel
theorem d_DrawSets_has_18 : decode b_DrawSets_has 18 = .ok (.invokevirtual 30, 3) := by decide +kernel
theorem d_DrawSets_has_21 : decode b_DrawSets_has 21 = .ok (.iload_n 2, 1) := by decide +kernel
theorem d_DrawSets_has_22 : decode b_DrawSets_has 22 = .ok (.bipush 64, 2) := by decide +kernel
theorem d_DrawSets_has_24 : decode b_DrawSets_has 24 = .ok (.isub, 1) := by decide +kernel
theorem d_DrawSets_has_25 : decode b_DrawSets_has 25 = .ok (.lushr, 1) := by decide +kernel
theorem d_DrawSets_has_26 : decode b_DrawSets_has 26 = .ok (.lstore_n 3, 1) := by decide +kernel
theorem d_DrawSets_has_27 : decode b_DrawSets_has 27 = .ok (.lload_n 3, 1) := by decide +kernel
theorem d_DrawSets_has_28 : decode b_DrawSets_has 28 = .ok (.lconst 1, 1) := by decide +kernel
theorem d_DrawSets_has_29 : decode b_DrawSets_has 29 = .ok (.land, 1) := by decide +kernel
theorem d_DrawSets_has_30 : decode b_DrawSets_has 30 = .ok (.lconst 0, 1) := by decide +kernel
theorem d_DrawSets_has_31 : decode b_DrawSets_has 31 = .ok (.lcmp, 1) := by decide +kernel
theorem d_DrawSets_has_32 : decode b_DrawSets_has 32 = .ok (.ifCond .eq 7, 3) := by decide +kernel
theorem d_DrawSets_has_35 : decode b_DrawSets_has 35 = .ok (.iconst 1, 1) := by decide +kernel
theorem d_DrawSets_has_36 : decode b_DrawSets_has 36 = .ok (.goto 4, 3) := by decide +kernel
theorem d_DrawSets_has_39 : decode b_DrawSets_has 39 = .ok (.iconst 0, 1) := by decide +kernel
theorem d_DrawSets_has_40 : decode b_DrawSets_has 40 = .ok (.ireturn, 1) := by decide +kernel
theorem d_Main_odds_0 : decode b_Main_odds 0 = .ok (.aload_n 0, 1) := by decide +kernel
theorem d_Main_odds_1 : decode b_Main_odds 1 = .ok (.getfield 26, 3) := by decide +kernel
theorem d_Main_odds_4 : decode b_Main_odds 4 = .ok (.aload_n 0, 1) := by decide +kernel
theorem d_Main_odds_5 : decode b_Main_odds 5 = .ok (.getfield 26, 3) := by decide +kernel
theorem d_Main_odds_8 : decode b_Main_odds 8 = .ok (.invokevirtual 126, 3) := by decide +kernel
theorem d_Main_odds_11 : decode b_Main_odds 11 = .ok (.invokevirtual 129, 3) := by decide +kernel
theorem d_Main_odds_14 : decode b_Main_odds 14 = .ok (.aload_n 0, 1) := by decide +kernel
theorem d_Main_odds_15 : decode b_Main_odds 15 = .ok (.getfield 26, 3) := by decide +kernel
theorem d_Main_odds_18 : decode b_Main_odds 18 = .ok (.getfield 61, 3) := by decide +kernel
theorem d_Main_odds_21 : decode b_Main_odds 21 = .ok (.invokevirtual 65, 3) := by decide +kernel
theorem d_Main_odds_24 : decode b_Main_odds 24 = .ok (.iload_n 1, 1) := by decide +kernel
theorem d_Main_odds_25 : decode b_Main_odds 25 = .ok (.invokestatic 135, 3) := by decide +kernel
theorem d_Main_odds_28 : decode b_Main_odds 28 = .ok (.lreturn, 1) := by decide +kernel
theorem d_Main_tellFraction_0 : decode b_Main_tellFraction 0 = .ok (.iload_n 0, 1) := by decide +kernel
theorem d_Main_tellFraction_1 : decode b_Main_tellFraction 1 = .ok (.iload_n 1, 1) := by decide +kernel
theorem d_Main_tellFraction_2 : decode b_Main_tellFraction 2 = .ok (.invokestatic 235, 3) := by decide +kernel
theorem d_Main_tellFraction_5 : decode b_Main_tellFraction 5 = .ok (.istore_n 3, 1) := by decide +kernel
theorem d_Main_tellFraction_6 : decode b_Main_tellFraction 6 = .ok (.iload_n 2, 1) := by decide +kernel
theorem d_Main_tellFraction_7 : decode b_Main_tellFraction 7 = .ok (.iconst 0, 1) := by decide +kernel
theorem d_Main_tellFraction_8 : decode b_Main_tellFraction 8 = .ok (.iconst 1, 1) := by decide +kernel
theorem d_Main_tellFraction_9 : decode b_Main_tellFraction 9 = .ok (.invokestatic 44, 3) := by decide +kernel
theorem d_Main_tellFraction_12 : decode b_Main_tellFraction 12 = .ok (.ifCond .eq 8, 3) := by decide +kernel
theorem d_Main_tellFraction_15 : decode b_Main_tellFraction 15 = .ok (.iload_n 3, 1) := by decide +kernel
theorem d_Main_tellFraction_16 : decode b_Main_tellFraction 16 = .ok (.iconst 1, 1) := by decide +kernel
theorem d_Main_tellFraction_17 : decode b_Main_tellFraction 17 = .ok (.if_icmp .ge 7, 3) := by decide +kernel
theorem d_Main_tellFraction_20 : decode b_Main_tellFraction 20 = .ok (.ldc2_w 238, 3) := by decide +kernel
theorem d_Main_tellFraction_23 : decode b_Main_tellFraction 23 = .ok (.lreturn, 1) := by decide +kernel
theorem d_Main_tellFraction_24 : decode b_Main_tellFraction 24 = .ok (.iload_n 2, 1) := by decide +kernel
theorem d_Main_tellFraction_25 : decode b_Main_tellFraction 25 = .ok (.ifCond .ne 10, 3) := by decide +kernel
theorem d_Main_tellFraction_28 : decode b_Main_tellFraction 28 = .ok (.iload_n 0, 1) := by decide +kernel
theorem d_Main_tellFraction_29 : decode b_Main_tellFraction 29 = .ok (.iload_n 3, 1) := by decide +kernel
theorem d_Main_tellFraction_30 : decode b_Main_tellFraction 30 = .ok (.idiv, 1) := by decide +kernel
theorem d_Main_tellFraction_31 : decode b_Main_tellFraction 31 = .ok (.i2l, 1) := by decide +kernel
theorem d_Main_tellFraction_32 : decode b_Main_tellFraction 32 = .ok (.goto 7, 3) := by decide +kernel
theorem d_Main_tellFraction_35 : decode b_Main_tellFraction 35 = .ok (.iload_n 1, 1) := by decide +kernel
theorem d_Main_tellFraction_36 : decode b_Main_tellFraction 36 = .ok (.iload_n 3, 1) := by decide +kernel
theorem d_Main_tellFraction_37 : decode b_Main_tellFraction 37 = .ok (.idiv, 1) := by decide +kernel
theorem d_Main_tellFraction_38 : decode b_Main_tellFraction 38 = .ok (.i2l, 1) := by decide +kernel
theorem d_Main_tellFraction_39 : decode b_Main_tellFraction 39 = .ok (.lreturn, 1) := by decide +kernel
theorem d_Main_commonDivisor_0 : decode b_Main_commonDivisor 0 = .ok (.iload_n 1, 1) := by decide +kernel
theorem d_Main_commonDivisor_1 : decode b_Main_commonDivisor 1 = .ok (.istore_n 2, 1) := by decide +kernel
theorem d_Main_commonDivisor_2 : decode b_Main_commonDivisor 2 = .ok (.iload_n 2, 1) := by decide +kernel
theorem d_Main_commonDivisor_3 : decode b_Main_commonDivisor 3 = .ok (.iconst 1, 1) := by decide +kernel
theorem d_Main_commonDivisor_4 : decode b_Main_commonDivisor 4 = .ok (.if_icmp .le 23, 3) := by decide +kernel
theorem d_Main_commonDivisor_7 : decode b_Main_commonDivisor 7 = .ok (.iload_n 0, 1) := by decide +kernel
theorem d_Main_commonDivisor_8 : decode b_Main_commonDivisor 8 = .ok (.iload_n 2, 1) := by decide +kernel
theorem d_Main_commonDivisor_9 : decode b_Main_commonDivisor 9 = .ok (.irem, 1) := by decide +kernel
theorem d_Main_commonDivisor_10 : decode b_Main_commonDivisor 10 = .ok (.ifCond .ne 11, 3) := by decide +kernel
theorem d_Main_commonDivisor_13 : decode b_Main_commonDivisor 13 = .ok (.iload_n 1, 1) := by decide +kernel
theorem d_Main_commonDivisor_14 : decode b_Main_commonDivisor 14 = .ok (.iload_n 2, 1) := by decide +kernel
theorem d_Main_commonDivisor_15 : decode b_Main_commonDivisor 15 = .ok (.irem, 1) := by decide +kernel
theorem d_Main_commonDivisor_16 : decode b_Main_commonDivisor 16 = .ok (.ifCond .ne 5, 3) := by decide +kernel
theorem d_Main_commonDivisor_19 : decode b_Main_commonDivisor 19 = .ok (.iload_n 2, 1) := by decide +kernel
theorem d_Main_commonDivisor_20 : decode b_Main_commonDivisor 20 = .ok (.ireturn, 1) := by decide +kernel
theorem d_Main_commonDivisor_21 : decode b_Main_commonDivisor 21 = .ok (.iinc 2 (-1), 3) := by decide +kernel
theorem d_Main_commonDivisor_24 : decode b_Main_commonDivisor 24 = .ok (.goto (-22), 3) := by decide +kernel
theorem d_Main_commonDivisor_27 : decode b_Main_commonDivisor 27 = .ok (.iconst 1, 1) := by decide +kernel
theorem d_Main_commonDivisor_28 : decode b_Main_commonDivisor 28 = .ok (.ireturn, 1) := by decide +kernel
theorem d_Main_useless_0 : decode b_Main_useless 0 = .ok (.aload_n 0, 1) := by decide +kernel
theorem d_Main_useless_1 : decode b_Main_useless 1 = .ok (.getfield 26, 3) := by decide +kernel
theorem d_Main_useless_4 : decode b_Main_useless 4 = .ok (.invokevirtual 139, 3) := by decide +kernel
theorem d_Main_useless_7 : decode b_Main_useless 7 = .ok (.ireturn, 1) := by decide +kernel
theorem d_Wheel_findUseless_0 : decode b_Wheel_findUseless 0 = .ok (.aload_n 0, 1) := by decide +kernel
theorem d_Wheel_findUseless_1 : decode b_Wheel_findUseless 1 = .ok (.invokevirtual 120, 3) := by decide +kernel
theorem d_Wheel_findUseless_4 : decode b_Wheel_findUseless 4 = .ok (.istore_n 1, 1) := by decide +kernel
theorem d_Wheel_findUseless_5 : decode b_Wheel_findUseless 5 = .ok (.aload_n 0, 1) := by decide +kernel
theorem d_Wheel_findUseless_6 : decode b_Wheel_findUseless 6 = .ok (.iload_n 1, 1) := by decide +kernel
theorem d_Wheel_findUseless_7 : decode b_Wheel_findUseless 7 = .ok (.invokevirtual 127, 3) := by decide +kernel
theorem d_Wheel_findUseless_10 : decode b_Wheel_findUseless 10 = .ok (.istore_n 2, 1) := by decide +kernel
theorem d_Wheel_findUseless_11 : decode b_Wheel_findUseless 11 = .ok (.iconst 0, 1) := by decide +kernel
theorem d_Wheel_findUseless_12 : decode b_Wheel_findUseless 12 = .ok (.istore_n 3, 1) := by decide +kernel
theorem d_Wheel_findUseless_13 : decode b_Wheel_findUseless 13 = .ok (.iconst 0, 1) := by decide +kernel
theorem d_Wheel_findUseless_14 : decode b_Wheel_findUseless 14 = .ok (.istore 4, 2) := by decide +kernel
theorem d_Wheel_findUseless_16 : decode b_Wheel_findUseless 16 = .ok (.iload 4, 2) := by decide +kernel
theorem d_Wheel_findUseless_18 : decode b_Wheel_findUseless 18 = .ok (.aload_n 0, 1) := by decide +kernel
theorem d_Wheel_findUseless_19 : decode b_Wheel_findUseless 19 = .ok (.getfield 89, 3) := by decide +kernel
theorem d_Wheel_findUseless_22 : decode b_Wheel_findUseless 22 = .ok (.if_icmp .ge 32, 3) := by decide +kernel
theorem d_Wheel_findUseless_25 : decode b_Wheel_findUseless 25 = .ok (.aload_n 0, 1) := by decide +kernel
theorem d_Wheel_findUseless_26 : decode b_Wheel_findUseless 26 = .ok (.iload_n 1, 1) := by decide +kernel
theorem d_Wheel_findUseless_27 : decode b_Wheel_findUseless 27 = .ok (.iconst 1, 1) := by decide +kernel
theorem d_Wheel_findUseless_28 : decode b_Wheel_findUseless 28 = .ok (.iload 4, 2) := by decide +kernel
theorem d_Wheel_findUseless_30 : decode b_Wheel_findUseless 30 = .ok (.ishl, 1) := by decide +kernel
theorem d_Wheel_findUseless_31 : decode b_Wheel_findUseless 31 = .ok (.iconst (-1), 1) := by decide +kernel
theorem d_Wheel_findUseless_32 : decode b_Wheel_findUseless 32 = .ok (.ixor, 1) := by decide +kernel
theorem d_Wheel_findUseless_33 : decode b_Wheel_findUseless 33 = .ok (.iand, 1) := by decide +kernel
theorem d_Wheel_findUseless_34 : decode b_Wheel_findUseless 34 = .ok (.invokevirtual 127, 3) := by decide +kernel
theorem d_Wheel_findUseless_37 : decode b_Wheel_findUseless 37 = .ok (.iload_n 2, 1) := by decide +kernel
theorem d_Wheel_findUseless_38 : decode b_Wheel_findUseless 38 = .ok (.if_icmp .ne 10, 3) := by decide +kernel
theorem d_Wheel_findUseless_41 : decode b_Wheel_findUseless 41 = .ok (.iload_n 3, 1) := by decide +kernel
theorem d_Wheel_findUseless_42 : decode b_Wheel_findUseless 42 = .ok (.iconst 1, 1) := by decide +kernel
theorem d_Wheel_findUseless_43 : decode b_Wheel_findUseless 43 = .ok (.iload 4, 2) := by decide +kernel
theorem d_Wheel_findUseless_45 : decode b_Wheel_findUseless 45 = .ok (.ishl, 1) := by decide +kernel
theorem d_Wheel_findUseless_46 : decode b_Wheel_findUseless 46 = .ok (.ior, 1) := by decide +kernel
theorem d_Wheel_findUseless_47 : decode b_Wheel_findUseless 47 = .ok (.istore_n 3, 1) := by decide +kernel
theorem d_Wheel_findUseless_48 : decode b_Wheel_findUseless 48 = .ok (.iinc 4 1, 3) := by decide +kernel
theorem d_Wheel_findUseless_51 : decode b_Wheel_findUseless 51 = .ok (.goto (-35), 3) := by decide +kernel
theorem d_Wheel_findUseless_54 : decode b_Wheel_findUseless 54 = .ok (.iload_n 3, 1) := by decide +kernel
theorem d_Wheel_findUseless_55 : decode b_Wheel_findUseless 55 = .ok (.ireturn, 1) := by decide +kernel
theorem d_Main_often_0 : decode b_Main_often 0 = .ok (.iload_n 1, 1) := by decide +kernel
theorem d_Main_often_1 : decode b_Main_often 1 = .ok (.iconst 1, 1) := by decide +kernel
theorem d_Main_often_2 : decode b_Main_often 2 = .ok (.aload_n 0, 1) := by decide +kernel
theorem d_Main_often_3 : decode b_Main_often 3 = .ok (.getfield 19, 3) := by decide +kernel
theorem d_Main_often_6 : decode b_Main_often 6 = .ok (.getfield 79, 3) := by decide +kernel
theorem d_Main_often_9 : decode b_Main_often 9 = .ok (.invokestatic 44, 3) := by decide +kernel
theorem d_Main_often_12 : decode b_Main_often 12 = .ok (.ifCond .eq 14, 3) := by decide +kernel
theorem d_Main_often_15 : decode b_Main_often 15 = .ok (.aload_n 0, 1) := by decide +kernel
theorem d_Main_often_16 : decode b_Main_often 16 = .ok (.getfield 19, 3) := by decide +kernel
theorem d_Main_often_19 : decode b_Main_often 19 = .ok (.iload_n 1, 1) := by decide +kernel
theorem d_Main_often_20 : decode b_Main_often 20 = .ok (.invokevirtual 142, 3) := by decide +kernel
theorem d_Main_often_23 : decode b_Main_often 23 = .ok (.goto 4, 3) := by decide +kernel
theorem d_Main_often_26 : decode b_Main_often 26 = .ok (.iconst (-1), 1) := by decide +kernel
theorem d_Main_often_27 : decode b_Main_often 27 = .ok (.ireturn, 1) := by decide +kernel
theorem d_Play_countTicketsWith_0 : decode b_Play_countTicketsWith 0 = .ok (.iconst 0, 1) := by decide +kernel
theorem d_Play_countTicketsWith_1 : decode b_Play_countTicketsWith 1 = .ok (.istore_n 2, 1) := by decide +kernel
theorem d_Play_countTicketsWith_2 : decode b_Play_countTicketsWith 2 = .ok (.iconst 0, 1) := by decide +kernel
theorem d_Play_countTicketsWith_3 : decode b_Play_countTicketsWith 3 = .ok (.istore_n 3, 1) := by decide +kernel
theorem d_Play_countTicketsWith_4 : decode b_Play_countTicketsWith 4 = .ok (.iload_n 3, 1) := by decide +kernel
theorem d_Play_countTicketsWith_5 : decode b_Play_countTicketsWith 5 = .ok (.aload_n 0, 1) := by decide +kernel
theorem d_Play_countTicketsWith_6 : decode b_Play_countTicketsWith 6 = .ok (.getfield 55, 3) := by decide +kernel
theorem d_Play_countTicketsWith_9 : decode b_Play_countTicketsWith 9 = .ok (.if_icmp .ge 26, 3) := by decide +kernel
theorem d_Play_countTicketsWith_12 : decode b_Play_countTicketsWith 12 = .ok (.iload_n 2, 1) := by decide +kernel
theorem d_Play_countTicketsWith_13 : decode b_Play_countTicketsWith 13 = .ok (.aload_n 0, 1) := by decide +kernel
theorem d_Play_countTicketsWith_14 : decode b_Play_countTicketsWith 14 = .ok (.getfield 14, 3) := by decide +kernel
theorem d_Play_countTicketsWith_17 : decode b_Play_countTicketsWith 17 = .ok (.iload_n 3, 1) := by decide +kernel
theorem d_Play_countTicketsWith_18 : decode b_Play_countTicketsWith 18 = .ok (.invokevirtual 87, 3) := by decide +kernel
theorem d_Play_countTicketsWith_21 : decode b_Play_countTicketsWith 21 = .ok (.iload_n 1, 1) := by decide +kernel
theorem d_Play_countTicketsWith_22 : decode b_Play_countTicketsWith 22 = .ok (.iconst 1, 1) := by decide +kernel
theorem d_Play_countTicketsWith_23 : decode b_Play_countTicketsWith 23 = .ok (.isub, 1) := by decide +kernel
theorem d_Play_countTicketsWith_24 : decode b_Play_countTicketsWith 24 = .ok (.ishr, 1) := by decide +kernel
theorem d_Play_countTicketsWith_25 : decode b_Play_countTicketsWith 25 = .ok (.iconst 1, 1) := by decide +kernel
theorem d_Play_countTicketsWith_26 : decode b_Play_countTicketsWith 26 = .ok (.iand, 1) := by decide +kernel
theorem d_Play_countTicketsWith_27 : decode b_Play_countTicketsWith 27 = .ok (.iadd, 1) := by decide +kernel
theorem d_Play_countTicketsWith_28 : decode b_Play_countTicketsWith 28 = .ok (.istore_n 2, 1) := by decide +kernel
theorem d_Play_countTicketsWith_29 : decode b_Play_countTicketsWith 29 = .ok (.iinc 3 1, 3) := by decide +kernel
theorem d_Play_countTicketsWith_32 : decode b_Play_countTicketsWith 32 = .ok (.goto (-28), 3) := by decide +kernel
theorem d_Play_countTicketsWith_35 : decode b_Play_countTicketsWith 35 = .ok (.iload_n 2, 1) := by decide +kernel
theorem d_Play_countTicketsWith_36 : decode b_Play_countTicketsWith 36 = .ok (.ireturn, 1) := by decide +kernel
theorem d_Main_prize_0 : decode b_Main_prize 0 = .ok (.iload_n 1, 1) := by decide +kernel
theorem d_Main_prize_1 : decode b_Main_prize 1 = .ok (.iconst 0, 1) := by decide +kernel
theorem d_Main_prize_2 : decode b_Main_prize 2 = .ok (.bipush 8, 2) := by decide +kernel
theorem d_Main_prize_4 : decode b_Main_prize 4 = .ok (.invokestatic 44, 3) := by decide +kernel
theorem d_Main_prize_7 : decode b_Main_prize 7 = .ok (.ifCond .eq 14, 3) := by decide +kernel
theorem d_Main_prize_10 : decode b_Main_prize 10 = .ok (.iload_n 2, 1) := by decide +kernel
theorem d_Main_prize_11 : decode b_Main_prize 11 = .ok (.iconst 0, 1) := by decide +kernel
theorem d_Main_prize_12 : decode b_Main_prize 12 = .ok (.sipush 999, 3) := by decide +kernel
theorem d_Main_prize_15 : decode b_Main_prize 15 = .ok (.invokestatic 44, 3) := by decide +kernel
theorem d_Main_prize_18 : decode b_Main_prize 18 = .ok (.ifCond .ne 6, 3) := by decide +kernel
theorem d_Main_prize_21 : decode b_Main_prize 21 = .ok (.bipush (-2), 2) := by decide +kernel
theorem d_Main_prize_23 : decode b_Main_prize 23 = .ok (.ireturn, 1) := by decide +kernel
theorem d_Main_prize_24 : decode b_Main_prize 24 = .ok (.aload_n 0, 1) := by decide +kernel
theorem d_Main_prize_25 : decode b_Main_prize 25 = .ok (.getfield 19, 3) := by decide +kernel
theorem d_Main_prize_28 : decode b_Main_prize 28 = .ok (.getfield 145, 3) := by decide +kernel
theorem d_Main_prize_31 : decode b_Main_prize 31 = .ok (.iload_n 1, 1) := by decide +kernel
theorem d_Main_prize_32 : decode b_Main_prize 32 = .ok (.invokevirtual 103, 3) := by decide +kernel
theorem d_Main_prize_35 : decode b_Main_prize 35 = .ok (.istore_n 3, 1) := by decide +kernel
theorem d_Main_prize_36 : decode b_Main_prize 36 = .ok (.aload_n 0, 1) := by decide +kernel
theorem d_Main_prize_37 : decode b_Main_prize 37 = .ok (.getfield 19, 3) := by decide +kernel
theorem d_Main_prize_40 : decode b_Main_prize 40 = .ok (.getfield 145, 3) := by decide +kernel
theorem d_Main_prize_43 : decode b_Main_prize 43 = .ok (.iload_n 1, 1) := by decide +kernel
theorem d_Main_prize_44 : decode b_Main_prize 44 = .ok (.iload_n 2, 1) := by decide +kernel
theorem d_Main_prize_45 : decode b_Main_prize 45 = .ok (.invokevirtual 148, 3) := by decide +kernel
theorem d_Main_prize_48 : decode b_Main_prize 48 = .ok (.iload_n 3, 1) := by decide +kernel
theorem d_Main_prize_49 : decode b_Main_prize 49 = .ok (.ireturn, 1) := by decide +kernel
theorem d_Main_mean_0 : decode b_Main_mean 0 = .ok (.iconst 0, 1) := by decide +kernel
theorem d_Main_mean_1 : decode b_Main_mean 1 = .ok (.istore_n 2, 1) := by decide +kernel
theorem d_Main_mean_2 : decode b_Main_mean 2 = .ok (.iconst 0, 1) := by decide +kernel
theorem d_Main_mean_3 : decode b_Main_mean 3 = .ok (.istore_n 3, 1) := by decide +kernel
theorem d_Main_mean_4 : decode b_Main_mean 4 = .ok (.iload_n 3, 1) := by decide +kernel
theorem d_Main_mean_5 : decode b_Main_mean 5 = .ok (.aload_n 0, 1) := by decide +kernel
theorem d_Main_mean_6 : decode b_Main_mean 6 = .ok (.getfield 26, 3) := by decide +kernel
theorem d_Main_mean_9 : decode b_Main_mean 9 = .ok (.getfield 61, 3) := by decide +kernel
theorem d_Main_mean_12 : decode b_Main_mean 12 = .ok (.invokevirtual 65, 3) := by decide +kernel
theorem d_Main_mean_15 : decode b_Main_mean 15 = .ok (.if_icmp .ge 30, 3) := by decide +kernel
theorem d_Main_mean_18 : decode b_Main_mean 18 = .ok (.iload_n 2, 1) := by decide +kernel
theorem d_Main_mean_19 : decode b_Main_mean 19 = .ok (.aload_n 0, 1) := by decide +kernel
theorem d_Main_mean_20 : decode b_Main_mean 20 = .ok (.getfield 19, 3) := by decide +kernel
theorem d_Main_mean_23 : decode b_Main_mean 23 = .ok (.aload_n 0, 1) := by decide +kernel
theorem d_Main_mean_24 : decode b_Main_mean 24 = .ok (.getfield 26, 3) := by decide +kernel
theorem d_Main_mean_27 : decode b_Main_mean 27 = .ok (.getfield 61, 3) := by decide +kernel
theorem d_Main_mean_30 : decode b_Main_mean 30 = .ok (.iload_n 3, 1) := by decide +kernel
theorem d_Main_mean_31 : decode b_Main_mean 31 = .ok (.invokevirtual 152, 3) := by decide +kernel
theorem d_Main_mean_34 : decode b_Main_mean 34 = .ok (.invokevirtual 153, 3) := by decide +kernel
theorem d_Main_mean_37 : decode b_Main_mean 37 = .ok (.iadd, 1) := by decide +kernel
theorem d_Main_mean_38 : decode b_Main_mean 38 = .ok (.istore_n 2, 1) := by decide +kernel
theorem d_Main_mean_39 : decode b_Main_mean 39 = .ok (.iinc 3 1, 3) := by decide +kernel
theorem d_Main_mean_42 : decode b_Main_mean 42 = .ok (.goto (-38), 3) := by decide +kernel
theorem d_Main_mean_45 : decode b_Main_mean 45 = .ok (.iload_n 2, 1) := by decide +kernel
theorem d_Main_mean_46 : decode b_Main_mean 46 = .ok (.aload_n 0, 1) := by decide +kernel
theorem d_Main_mean_47 : decode b_Main_mean 47 = .ok (.getfield 26, 3) := by decide +kernel
theorem d_Main_mean_50 : decode b_Main_mean 50 = .ok (.getfield 61, 3) := by decide +kernel
theorem d_Main_mean_53 : decode b_Main_mean 53 = .ok (.invokevirtual 65, 3) := by decide +kernel
theorem d_Main_mean_56 : decode b_Main_mean 56 = .ok (.iload_n 1, 1) := by decide +kernel
theorem d_Main_mean_57 : decode b_Main_mean 57 = .ok (.invokestatic 135, 3) := by decide +kernel
theorem d_Main_mean_60 : decode b_Main_mean 60 = .ok (.lreturn, 1) := by decide +kernel
theorem d_Play_countPence_0 : decode b_Play_countPence 0 = .ok (.iconst 0, 1) := by decide +kernel
theorem d_Play_countPence_1 : decode b_Play_countPence 1 = .ok (.istore_n 2, 1) := by decide +kernel
theorem d_Play_countPence_2 : decode b_Play_countPence 2 = .ok (.iconst 0, 1) := by decide +kernel
theorem d_Play_countPence_3 : decode b_Play_countPence 3 = .ok (.istore_n 3, 1) := by decide +kernel
theorem d_Play_countPence_4 : decode b_Play_countPence 4 = .ok (.iload_n 3, 1) := by decide +kernel
theorem d_Play_countPence_5 : decode b_Play_countPence 5 = .ok (.aload_n 0, 1) := by decide +kernel
theorem d_Play_countPence_6 : decode b_Play_countPence 6 = .ok (.getfield 55, 3) := by decide +kernel
theorem d_Play_countPence_9 : decode b_Play_countPence 9 = .ok (.if_icmp .ge 25, 3) := by decide +kernel
theorem d_Play_countPence_12 : decode b_Play_countPence 12 = .ok (.iload_n 2, 1) := by decide +kernel
theorem d_Play_countPence_13 : decode b_Play_countPence 13 = .ok (.aload_n 0, 1) := by decide +kernel
theorem d_Play_countPence_14 : decode b_Play_countPence 14 = .ok (.getfield 20, 3) := by decide +kernel
theorem d_Play_countPence_17 : decode b_Play_countPence 17 = .ok (.aload_n 0, 1) := by decide +kernel
theorem d_Play_countPence_18 : decode b_Play_countPence 18 = .ok (.iload_n 3, 1) := by decide +kernel
theorem d_Play_countPence_19 : decode b_Play_countPence 19 = .ok (.iload_n 1, 1) := by decide +kernel
theorem d_Play_countPence_20 : decode b_Play_countPence 20 = .ok (.invokevirtual 90, 3) := by decide +kernel
theorem d_Play_countPence_23 : decode b_Play_countPence 23 = .ok (.invokevirtual 87, 3) := by decide +kernel
theorem d_Play_countPence_26 : decode b_Play_countPence 26 = .ok (.iadd, 1) := by decide +kernel
theorem d_Play_countPence_27 : decode b_Play_countPence 27 = .ok (.istore_n 2, 1) := by decide +kernel
theorem d_Play_countPence_28 : decode b_Play_countPence 28 = .ok (.iinc 3 1, 3) := by decide +kernel
theorem d_Play_countPence_31 : decode b_Play_countPence 31 = .ok (.goto (-27), 3) := by decide +kernel
theorem d_Play_countPence_34 : decode b_Play_countPence 34 = .ok (.iload_n 2, 1) := by decide +kernel
theorem d_Play_countPence_35 : decode b_Play_countPence 35 = .ok (.ireturn, 1) := by decide +kernel
theorem d_Main_most_0 : decode b_Main_most 0 = .ok (.iload_n 1, 1) := by decide +kernel
theorem d_Main_most_1 : decode b_Main_most 1 = .ok (.iconst 1, 1) := by decide +kernel
theorem d_Main_most_2 : decode b_Main_most 2 = .ok (.iconst 3, 1) := by decide +kernel
theorem d_Main_most_3 : decode b_Main_most 3 = .ok (.invokestatic 44, 3) := by decide +kernel
theorem d_Main_most_6 : decode b_Main_most 6 = .ok (.ifCond .ne 6, 3) := by decide +kernel
theorem d_Main_most_9 : decode b_Main_most 9 = .ok (.bipush (-2), 2) := by decide +kernel
theorem d_Main_most_11 : decode b_Main_most 11 = .ok (.ireturn, 1) := by decide +kernel
theorem d_Main_most_12 : decode b_Main_most 12 = .ok (.aload_n 0, 1) := by decide +kernel
theorem d_Main_most_13 : decode b_Main_most 13 = .ok (.getfield 26, 3) := by decide +kernel
theorem d_Main_most_16 : decode b_Main_most 16 = .ok (.getfield 156, 3) := by decide +kernel
theorem d_Main_most_19 : decode b_Main_most 19 = .ok (.iload_n 1, 1) := by decide +kernel
theorem d_Main_most_20 : decode b_Main_most 20 = .ok (.invokevirtual 160, 3) := by decide +kernel
theorem d_Main_most_23 : decode b_Main_most 23 = .ok (.astore_n 3, 1) := by decide +kernel
theorem d_Main_most_24 : decode b_Main_most 24 = .ok (.iload_n 2, 1) := by decide +kernel
theorem d_Main_most_25 : decode b_Main_most 25 = .ok (.iconst (-1), 1) := by decide +kernel
theorem d_Main_most_26 : decode b_Main_most 26 = .ok (.if_icmp .ne 10, 3) := by decide +kernel
theorem d_Main_most_29 : decode b_Main_most 29 = .ok (.aload_n 3, 1) := by decide +kernel
theorem d_Main_most_30 : decode b_Main_most 30 = .ok (.invokevirtual 166, 3) := by decide +kernel
theorem d_Main_most_33 : decode b_Main_most 33 = .ok (.goto 8, 3) := by decide +kernel
theorem d_Main_most_36 : decode b_Main_most 36 = .ok (.aload_n 3, 1) := by decide +kernel
theorem d_Main_most_37 : decode b_Main_most 37 = .ok (.iload_n 2, 1) := by decide +kernel
theorem d_Main_most_38 : decode b_Main_most 38 = .ok (.invokevirtual 171, 3) := by decide +kernel
theorem d_Main_most_41 : decode b_Main_most 41 = .ok (.ireturn, 1) := by decide +kernel
theorem d_Search_choiceForMost_0 : decode b_Search_choiceForMost 0 = .ok (.iload_n 1, 1) := by decide +kernel
theorem d_Search_choiceForMost_1 : decode b_Search_choiceForMost 1 = .ok (.iconst 1, 1) := by decide +kernel
theorem d_Search_choiceForMost_2 : decode b_Search_choiceForMost 2 = .ok (.if_icmp .ne 10, 3) := by decide +kernel
theorem d_Search_choiceForMost_5 : decode b_Search_choiceForMost 5 = .ok (.aload_n 0, 1) := by decide +kernel
theorem d_Search_choiceForMost_6 : decode b_Search_choiceForMost 6 = .ok (.getfield 30, 3) := by decide +kernel
theorem d_Search_choiceForMost_9 : decode b_Search_choiceForMost 9 = .ok (.goto 19, 3) := by decide +kernel
theorem d_Search_choiceForMost_12 : decode b_Search_choiceForMost 12 = .ok (.iload_n 1, 1) := by decide +kernel
theorem d_Search_choiceForMost_13 : decode b_Search_choiceForMost 13 = .ok (.iconst 2, 1) := by decide +kernel
theorem d_Search_choiceForMost_14 : decode b_Search_choiceForMost 14 = .ok (.if_icmp .ne 10, 3) := by decide +kernel
theorem d_Search_choiceForMost_17 : decode b_Search_choiceForMost 17 = .ok (.aload_n 0, 1) := by decide +kernel
theorem d_Search_choiceForMost_18 : decode b_Search_choiceForMost 18 = .ok (.getfield 34, 3) := by decide +kernel
theorem d_Search_choiceForMost_21 : decode b_Search_choiceForMost 21 = .ok (.goto 7, 3) := by decide +kernel
theorem d_Search_choiceForMost_24 : decode b_Search_choiceForMost 24 = .ok (.aload_n 0, 1) := by decide +kernel
theorem d_Search_choiceForMost_25 : decode b_Search_choiceForMost 25 = .ok (.getfield 37, 3) := by decide +kernel
theorem d_Search_choiceForMost_28 : decode b_Search_choiceForMost 28 = .ok (.astore_n 2, 1) := by decide +kernel
theorem d_Search_choiceForMost_29 : decode b_Search_choiceForMost 29 = .ok (.aload_n 2, 1) := by decide +kernel
theorem d_Search_choiceForMost_30 : decode b_Search_choiceForMost 30 = .ok (.getfield 57, 3) := by decide +kernel
theorem d_Search_choiceForMost_33 : decode b_Search_choiceForMost 33 = .ok (.ifCond .ne 16, 3) := by decide +kernel
theorem d_Search_choiceForMost_36 : decode b_Search_choiceForMost 36 = .ok (.aload_n 2, 1) := by decide +kernel
theorem d_Search_choiceForMost_37 : decode b_Search_choiceForMost 37 = .ok (.iload_n 1, 1) := by decide +kernel
theorem d_Search_choiceForMost_38 : decode b_Search_choiceForMost 38 = .ok (.iconst (-1), 1) := by decide +kernel
theorem d_Search_choiceForMost_39 : decode b_Search_choiceForMost 39 = .ok (.invokevirtual 61, 3) := by decide +kernel
theorem d_Search_choiceForMost_42 : decode b_Search_choiceForMost 42 = .ok (.aload_n 0, 1) := by decide +kernel
theorem d_Search_choiceForMost_43 : decode b_Search_choiceForMost 43 = .ok (.aload_n 2, 1) := by decide +kernel
theorem d_Search_choiceForMost_44 : decode b_Search_choiceForMost 44 = .ok (.iconst 0, 1) := by decide +kernel
theorem d_Search_choiceForMost_45 : decode b_Search_choiceForMost 45 = .ok (.iconst 0, 1) := by decide +kernel
theorem d_Search_choiceForMost_46 : decode b_Search_choiceForMost 46 = .ok (.invokestatic 65, 3) := by decide +kernel
theorem d_Search_choiceForMost_49 : decode b_Search_choiceForMost 49 = .ok (.aload_n 2, 1) := by decide +kernel
theorem d_Search_choiceForMost_50 : decode b_Search_choiceForMost 50 = .ok (.areturn, 1) := by decide +kernel
theorem d_Choice_begin_0 : decode b_Choice_begin 0 = .ok (.aload_n 0, 1) := by decide +kernel
theorem d_Choice_begin_1 : decode b_Choice_begin 1 = .ok (.iload_n 1, 1) := by decide +kernel
theorem d_Choice_begin_2 : decode b_Choice_begin 2 = .ok (.putfield 20, 3) := by decide +kernel
theorem d_Choice_begin_5 : decode b_Choice_begin 5 = .ok (.aload_n 0, 1) := by decide +kernel
theorem d_Choice_begin_6 : decode b_Choice_begin 6 = .ok (.iload_n 2, 1) := by decide +kernel
theorem d_Choice_begin_7 : decode b_Choice_begin 7 = .ok (.putfield 24, 3) := by decide +kernel
theorem d_Choice_begin_10 : decode b_Choice_begin 10 = .ok (.aload_n 0, 1) := by decide +kernel
theorem d_Choice_begin_11 : decode b_Choice_begin 11 = .ok (.iconst 0, 1) := by decide +kernel
theorem d_Choice_begin_12 : decode b_Choice_begin 12 = .ok (.putfield 27, 3) := by decide +kernel
theorem d_Choice_begin_15 : decode b_Choice_begin 15 = .ok (.aload_n 0, 1) := by decide +kernel
theorem d_Choice_begin_16 : decode b_Choice_begin 16 = .ok (.iconst 1, 1) := by decide +kernel
theorem d_Choice_begin_17 : decode b_Choice_begin 17 = .ok (.putfield 31, 3) := by decide +kernel
theorem d_Choice_begin_20 : decode b_Choice_begin 20 = .ok (.return_, 1) := by decide +kernel
theorem d_Search_choose_0 : decode b_Search_choose 0 = .ok (.aload_n 1, 1) := by decide +kernel
theorem d_Search_choose_1 : decode b_Search_choose 1 = .ok (.getfield 72, 3) := by decide +kernel
theorem d_Search_choose_4 : decode b_Search_choose 4 = .ok (.iload_n 2, 1) := by decide +kernel
theorem d_Search_choose_5 : decode b_Search_choose 5 = .ok (.isub, 1) := by decide +kernel
theorem d_Search_choose_6 : decode b_Search_choose 6 = .ok (.istore 4, 2) := by decide +kernel
theorem d_Search_choose_8 : decode b_Search_choose 8 = .ok (.iload 4, 2) := by decide +kernel
theorem d_Search_choose_10 : decode b_Search_choose 10 = .ok (.iconst 1, 1) := by decide +kernel
theorem d_Search_choose_11 : decode b_Search_choose 11 = .ok (.if_icmp .lt 8, 3) := by decide +kernel
theorem d_Search_choose_14 : decode b_Search_choose 14 = .ok (.iload_n 2, 1) := by decide +kernel
theorem d_Search_choose_15 : decode b_Search_choose 15 = .ok (.iconst 4, 1) := by decide +kernel
theorem d_Search_choose_16 : decode b_Search_choose 16 = .ok (.if_icmp .lt 4, 3) := by decide +kernel
theorem d_Search_choose_19 : decode b_Search_choose 19 = .ok (.return_, 1) := by decide +kernel
theorem d_Search_choose_20 : decode b_Search_choose 20 = .ok (.aload_n 0, 1) := by decide +kernel
theorem d_Search_choose_21 : decode b_Search_choose 21 = .ok (.getfield 43, 3) := by decide +kernel
theorem d_Search_choose_24 : decode b_Search_choose 24 = .ok (.invokevirtual 75, 3) := by decide +kernel
theorem d_Search_choose_27 : decode b_Search_choose 27 = .ok (.iload 4, 2) := by decide +kernel
theorem d_Search_choose_29 : decode b_Search_choose 29 = .ok (.isub, 1) := by decide +kernel
theorem d_Search_choose_30 : decode b_Search_choose 30 = .ok (.istore 5, 2) := by decide +kernel
theorem d_Search_choose_32 : decode b_Search_choose 32 = .ok (.iload_n 3, 1) := by decide +kernel
theorem d_Search_choose_33 : decode b_Search_choose 33 = .ok (.istore 6, 2) := by decide +kernel
theorem d_Search_choose_35 : decode b_Search_choose 35 = .ok (.iload 6, 2) := by decide +kernel
theorem d_Search_choose_37 : decode b_Search_choose 37 = .ok (.iload 5, 2) := by decide +kernel
theorem d_Search_choose_39 : decode b_Search_choose 39 = .ok (.if_icmp .gt 86, 3) := by decide +kernel
theorem d_Search_choose_42 : decode b_Search_choose 42 = .ok (.aload_n 0, 1) := by decide +kernel
theorem d_Search_choose_43 : decode b_Search_choose 43 = .ok (.iload_n 2, 1) := by decide +kernel
theorem d_Search_choose_44 : decode b_Search_choose 44 = .ok (.iload 4, 2) := by decide +kernel
theorem d_Search_choose_46 : decode b_Search_choose 46 = .ok (.invokevirtual 80, 3) := by decide +kernel
theorem d_Search_choose_49 : decode b_Search_choose 49 = .ok (.aload_n 1, 1) := by decide +kernel
theorem d_Search_choose_50 : decode b_Search_choose 50 = .ok (.getfield 84, 3) := by decide +kernel
theorem d_Search_choose_53 : decode b_Search_choose 53 = .ok (.if_icmp .le 72, 3) := by decide +kernel
theorem d_Search_choose_56 : decode b_Search_choose 56 = .ok (.aload_n 0, 1) := by decide +kernel
theorem d_Search_choose_57 : decode b_Search_choose 57 = .ok (.getfield 23, 3) := by decide +kernel
theorem d_Search_choose_60 : decode b_Search_choose 60 = .ok (.iload_n 2, 1) := by decide +kernel
theorem d_Search_choose_61 : decode b_Search_choose 61 = .ok (.aload_n 0, 1) := by decide +kernel
theorem d_Search_choose_62 : decode b_Search_choose 62 = .ok (.getfield 43, 3) := by decide +kernel
theorem d_Search_choose_65 : decode b_Search_choose 65 = .ok (.iload 6, 2) := by decide +kernel
theorem d_Search_choose_67 : decode b_Search_choose 67 = .ok (.invokevirtual 87, 3) := by decide +kernel
theorem d_Search_choose_70 : decode b_Search_choose 70 = .ok (.invokevirtual 91, 3) := by decide +kernel
theorem d_Search_choose_73 : decode b_Search_choose 73 = .ok (.aload_n 0, 1) := by decide +kernel
theorem d_Search_choose_74 : decode b_Search_choose 74 = .ok (.getfield 14, 3) := by decide +kernel
theorem d_Search_choose_77 : decode b_Search_choose 77 = .ok (.iload_n 2, 1) := by decide +kernel
theorem d_Search_choose_78 : decode b_Search_choose 78 = .ok (.iconst 1, 1) := by decide +kernel
theorem d_Search_choose_79 : decode b_Search_choose 79 = .ok (.iadd, 1) := by decide +kernel
theorem d_Search_choose_80 : decode b_Search_choose 80 = .ok (.iload_n 2, 1) := by decide +kernel
theorem d_Search_choose_81 : decode b_Search_choose 81 = .ok (.aload_n 0, 1) := by decide +kernel
theorem d_Search_choose_82 : decode b_Search_choose 82 = .ok (.getfield 47, 3) := by decide +kernel
theorem d_Search_choose_85 : decode b_Search_choose 85 = .ok (.iload 6, 2) := by decide +kernel
theorem d_Search_choose_87 : decode b_Search_choose 87 = .ok (.invokevirtual 94, 3) := by decide +kernel
theorem d_Search_choose_90 : decode b_Search_choose 90 = .ok (.iload 4, 2) := by decide +kernel
theorem d_Search_choose_92 : decode b_Search_choose 92 = .ok (.iconst 1, 1) := by decide +kernel
theorem d_Search_choose_93 : decode b_Search_choose 93 = .ok (.if_icmp .ne 14, 3) := by decide +kernel
theorem d_Search_choose_96 : decode b_Search_choose 96 = .ok (.aload_n 0, 1) := by decide +kernel
theorem d_Search_choose_97 : decode b_Search_choose 97 = .ok (.aload_n 1, 1) := by decide +kernel
theorem d_Search_choose_98 : decode b_Search_choose 98 = .ok (.iload_n 2, 1) := by decide +kernel
theorem d_Search_choose_99 : decode b_Search_choose 99 = .ok (.iconst 1, 1) := by decide +kernel
theorem d_Search_choose_100 : decode b_Search_choose 100 = .ok (.iadd, 1) := by decide +kernel
theorem d_Search_choose_101 : decode b_Search_choose 101 = .ok (.invokevirtual 98, 3) := by decide +kernel
theorem d_Search_choose_104 : decode b_Search_choose 104 = .ok (.goto 15, 3) := by decide +kernel
theorem d_Search_choose_107 : decode b_Search_choose 107 = .ok (.aload_n 0, 1) := by decide +kernel
theorem d_Search_choose_108 : decode b_Search_choose 108 = .ok (.aload_n 1, 1) := by decide +kernel
theorem d_Search_choose_109 : decode b_Search_choose 109 = .ok (.iload_n 2, 1) := by decide +kernel
theorem d_Search_choose_110 : decode b_Search_choose 110 = .ok (.iconst 1, 1) := by decide +kernel
theorem d_Search_choose_111 : decode b_Search_choose 111 = .ok (.iadd, 1) := by decide +kernel
theorem d_Search_choose_112 : decode b_Search_choose 112 = .ok (.iload 6, 2) := by decide +kernel
theorem d_Search_choose_114 : decode b_Search_choose 114 = .ok (.iconst 1, 1) := by decide +kernel
theorem d_Search_choose_115 : decode b_Search_choose 115 = .ok (.iadd, 1) := by decide +kernel
theorem d_Search_choose_116 : decode b_Search_choose 116 = .ok (.invokestatic 65, 3) := by decide +kernel
theorem d_Search_choose_119 : decode b_Search_choose 119 = .ok (.iinc 6 1, 3) := by decide +kernel
theorem d_Search_choose_122 : decode b_Search_choose 122 = .ok (.goto (-87), 3) := by decide +kernel
theorem d_Search_choose_125 : decode b_Search_choose 125 = .ok (.return_, 1) := by decide +kernel
theorem d_Search_couldReach_0 : decode b_Search_couldReach 0 = .ok (.aload_n 0, 1) := by decide +kernel
theorem d_Search_couldReach_1 : decode b_Search_couldReach 1 = .ok (.getfield 50, 3) := by decide +kernel
theorem d_Search_couldReach_4 : decode b_Search_couldReach 4 = .ok (.aload_n 0, 1) := by decide +kernel
theorem d_Search_couldReach_5 : decode b_Search_couldReach 5 = .ok (.getfield 14, 3) := by decide +kernel
theorem d_Search_couldReach_8 : decode b_Search_couldReach 8 = .ok (.iload_n 1, 1) := by decide +kernel
theorem d_Search_couldReach_9 : decode b_Search_couldReach 9 = .ok (.invokevirtual 102, 3) := by decide +kernel
theorem d_Search_couldReach_12 : decode b_Search_couldReach 12 = .ok (.iload_n 2, 1) := by decide +kernel
theorem d_Search_couldReach_13 : decode b_Search_couldReach 13 = .ok (.aload_n 0, 1) := by decide +kernel
theorem d_Search_couldReach_14 : decode b_Search_couldReach 14 = .ok (.getfield 54, 3) := by decide +kernel
theorem d_Search_couldReach_17 : decode b_Search_couldReach 17 = .ok (.imul, 1) := by decide +kernel
theorem d_Search_couldReach_18 : decode b_Search_couldReach 18 = .ok (.iadd, 1) := by decide +kernel
theorem d_Search_couldReach_19 : decode b_Search_couldReach 19 = .ok (.invokestatic 105, 3) := by decide +kernel
theorem d_Search_couldReach_22 : decode b_Search_couldReach 22 = .ok (.ireturn, 1) := by decide +kernel
theorem d_Search_offer_0 : decode b_Search_offer 0 = .ok (.aload_n 0, 1) := by decide +kernel
theorem d_Search_offer_1 : decode b_Search_offer 1 = .ok (.getfield 14, 3) := by decide +kernel
theorem d_Search_offer_4 : decode b_Search_offer 4 = .ok (.iload_n 2, 1) := by decide +kernel
theorem d_Search_offer_5 : decode b_Search_offer 5 = .ok (.invokevirtual 102, 3) := by decide +kernel
theorem d_Search_offer_8 : decode b_Search_offer 8 = .ok (.istore_n 3, 1) := by decide +kernel
theorem d_Search_offer_9 : decode b_Search_offer 9 = .ok (.iload_n 3, 1) := by decide +kernel
theorem d_Search_offer_10 : decode b_Search_offer 10 = .ok (.aload_n 1, 1) := by decide +kernel
theorem d_Search_offer_11 : decode b_Search_offer 11 = .ok (.getfield 84, 3) := by decide +kernel
theorem d_Search_offer_14 : decode b_Search_offer 14 = .ok (.if_icmp .le 24, 3) := by decide +kernel
theorem d_Search_offer_17 : decode b_Search_offer 17 = .ok (.aload_n 1, 1) := by decide +kernel
theorem d_Search_offer_18 : decode b_Search_offer 18 = .ok (.iload_n 3, 1) := by decide +kernel
theorem d_Search_offer_19 : decode b_Search_offer 19 = .ok (.putfield 84, 3) := by decide +kernel
theorem d_Search_offer_22 : decode b_Search_offer 22 = .ok (.aload_n 1, 1) := by decide +kernel
theorem d_Search_offer_23 : decode b_Search_offer 23 = .ok (.iconst 1, 1) := by decide +kernel
theorem d_Search_offer_24 : decode b_Search_offer 24 = .ok (.putfield 69, 3) := by decide +kernel
theorem d_Search_offer_27 : decode b_Search_offer 27 = .ok (.aload_n 1, 1) := by decide +kernel
theorem d_Search_offer_28 : decode b_Search_offer 28 = .ok (.getfield 110, 3) := by decide +kernel
theorem d_Search_offer_31 : decode b_Search_offer 31 = .ok (.aload_n 0, 1) := by decide +kernel
theorem d_Search_offer_32 : decode b_Search_offer 32 = .ok (.getfield 23, 3) := by decide +kernel
theorem d_Search_offer_35 : decode b_Search_offer 35 = .ok (.invokevirtual 113, 3) := by decide +kernel
theorem d_Search_offer_38 : decode b_Search_offer 38 = .ok (.return_, 1) := by decide +kernel
theorem d_Row_copyFrom_0 : decode b_Row_copyFrom 0 = .ok (.iconst 0, 1) := by decide +kernel
theorem d_Row_copyFrom_1 : decode b_Row_copyFrom 1 = .ok (.istore_n 2, 1) := by decide +kernel
theorem d_Row_copyFrom_2 : decode b_Row_copyFrom 2 = .ok (.iload_n 2, 1) := by decide +kernel
theorem d_Row_copyFrom_3 : decode b_Row_copyFrom 3 = .ok (.aload_n 0, 1) := by decide +kernel
theorem d_Row_copyFrom_4 : decode b_Row_copyFrom 4 = .ok (.getfield 13, 3) := by decide +kernel
theorem d_Row_copyFrom_7 : decode b_Row_copyFrom 7 = .ok (.arraylength, 1) := by decide +kernel
theorem d_Row_copyFrom_8 : decode b_Row_copyFrom 8 = .ok (.if_icmp .ge 19, 3) := by decide +kernel
theorem d_Row_copyFrom_11 : decode b_Row_copyFrom 11 = .ok (.aload_n 0, 1) := by decide +kernel
theorem d_Row_copyFrom_12 : decode b_Row_copyFrom 12 = .ok (.iload_n 2, 1) := by decide +kernel
theorem d_Row_copyFrom_13 : decode b_Row_copyFrom 13 = .ok (.aload_n 1, 1) := by decide +kernel
theorem d_Row_copyFrom_14 : decode b_Row_copyFrom 14 = .ok (.iload_n 2, 1) := by decide +kernel
theorem d_Row_copyFrom_15 : decode b_Row_copyFrom 15 = .ok (.invokevirtual 19, 3) := by decide +kernel
theorem d_Row_copyFrom_18 : decode b_Row_copyFrom 18 = .ok (.invokevirtual 23, 3) := by decide +kernel
theorem d_Row_copyFrom_21 : decode b_Row_copyFrom 21 = .ok (.iinc 2 1, 3) := by decide +kernel
theorem d_Row_copyFrom_24 : decode b_Row_copyFrom 24 = .ok (.goto (-22), 3) := by decide +kernel
theorem d_Row_copyFrom_27 : decode b_Row_copyFrom 27 = .ok (.return_, 1) := by decide +kernel
theorem d_Choice_wonOrNone_0 : decode b_Choice_wonOrNone 0 = .ok (.aload_n 0, 1) := by decide +kernel
theorem d_Choice_wonOrNone_1 : decode b_Choice_wonOrNone 1 = .ok (.getfield 27, 3) := by decide +kernel
theorem d_Choice_wonOrNone_4 : decode b_Choice_wonOrNone 4 = .ok (.ifCond .eq 10, 3) := by decide +kernel
theorem d_Choice_wonOrNone_7 : decode b_Choice_wonOrNone 7 = .ok (.aload_n 0, 1) := by decide +kernel
theorem d_Choice_wonOrNone_8 : decode b_Choice_wonOrNone 8 = .ok (.getfield 24, 3) := by decide +kernel
theorem d_Choice_wonOrNone_11 : decode b_Choice_wonOrNone 11 = .ok (.goto 5, 3) := by decide +kernel
theorem d_Choice_wonOrNone_14 : decode b_Choice_wonOrNone 14 = .ok (.bipush (-6), 2) := by decide +kernel
theorem d_Choice_wonOrNone_16 : decode b_Choice_wonOrNone 16 = .ok (.ireturn, 1) := by decide +kernel
theorem d_Choice_ticketOrNone_0 : decode b_Choice_ticketOrNone 0 = .ok (.aload_n 0, 1) := by decide +kernel
theorem d_Choice_ticketOrNone_1 : decode b_Choice_ticketOrNone 1 = .ok (.getfield 27, 3) := by decide +kernel
theorem d_Choice_ticketOrNone_4 : decode b_Choice_ticketOrNone 4 = .ok (.ifCond .eq 28, 3) := by decide +kernel
theorem d_Choice_ticketOrNone_7 : decode b_Choice_ticketOrNone 7 = .ok (.iload_n 1, 1) := by decide +kernel
theorem d_Choice_ticketOrNone_8 : decode b_Choice_ticketOrNone 8 = .ok (.iconst 0, 1) := by decide +kernel
theorem d_Choice_ticketOrNone_9 : decode b_Choice_ticketOrNone 9 = .ok (.aload_n 0, 1) := by decide +kernel
theorem d_Choice_ticketOrNone_10 : decode b_Choice_ticketOrNone 10 = .ok (.getfield 20, 3) := by decide +kernel
theorem d_Choice_ticketOrNone_13 : decode b_Choice_ticketOrNone 13 = .ok (.iconst 1, 1) := by decide +kernel
theorem d_Choice_ticketOrNone_14 : decode b_Choice_ticketOrNone 14 = .ok (.isub, 1) := by decide +kernel
theorem d_Choice_ticketOrNone_15 : decode b_Choice_ticketOrNone 15 = .ok (.invokestatic 34, 3) := by decide +kernel
theorem d_Choice_ticketOrNone_18 : decode b_Choice_ticketOrNone 18 = .ok (.ifCond .eq 14, 3) := by decide +kernel
theorem d_Choice_ticketOrNone_21 : decode b_Choice_ticketOrNone 21 = .ok (.aload_n 0, 1) := by decide +kernel
theorem d_Choice_ticketOrNone_22 : decode b_Choice_ticketOrNone 22 = .ok (.getfield 14, 3) := by decide +kernel
theorem d_Choice_ticketOrNone_25 : decode b_Choice_ticketOrNone 25 = .ok (.iload_n 1, 1) := by decide +kernel
theorem d_Choice_ticketOrNone_26 : decode b_Choice_ticketOrNone 26 = .ok (.invokevirtual 38, 3) := by decide +kernel
theorem d_Choice_ticketOrNone_29 : decode b_Choice_ticketOrNone 29 = .ok (.goto 5, 3) := by decide +kernel
theorem d_Choice_ticketOrNone_32 : decode b_Choice_ticketOrNone 32 = .ok (.bipush (-6), 2) := by decide +kernel
theorem d_Choice_ticketOrNone_34 : decode b_Choice_ticketOrNone 34 = .ok (.ireturn, 1) := by decide +kernel
theorem d_Main_sure_0 : decode b_Main_sure 0 = .ok (.aload_n 0, 1) := by decide +kernel
theorem d_Main_sure_1 : decode b_Main_sure 1 = .ok (.getfield 26, 3) := by decide +kernel
theorem d_Main_sure_4 : decode b_Main_sure 4 = .ok (.getfield 156, 3) := by decide +kernel
theorem d_Main_sure_7 : decode b_Main_sure 7 = .ok (.invokevirtual 174, 3) := by decide +kernel
theorem d_Main_sure_10 : decode b_Main_sure 10 = .ok (.astore_n 2, 1) := by decide +kernel
theorem d_Main_sure_11 : decode b_Main_sure 11 = .ok (.iload_n 1, 1) := by decide +kernel
theorem d_Main_sure_12 : decode b_Main_sure 12 = .ok (.iconst (-1), 1) := by decide +kernel
theorem d_Main_sure_13 : decode b_Main_sure 13 = .ok (.if_icmp .ne 10, 3) := by decide +kernel
theorem d_Main_sure_16 : decode b_Main_sure 16 = .ok (.aload_n 2, 1) := by decide +kernel
theorem d_Main_sure_17 : decode b_Main_sure 17 = .ok (.invokevirtual 178, 3) := by decide +kernel
theorem d_Main_sure_20 : decode b_Main_sure 20 = .ok (.goto 8, 3) := by decide +kernel
theorem d_Main_sure_23 : decode b_Main_sure 23 = .ok (.aload_n 2, 1) := by decide +kernel
theorem d_Main_sure_24 : decode b_Main_sure 24 = .ok (.iload_n 1, 1) := by decide +kernel
theorem d_Main_sure_25 : decode b_Main_sure 25 = .ok (.invokevirtual 171, 3) := by decide +kernel
theorem d_Main_sure_28 : decode b_Main_sure 28 = .ok (.ireturn, 1) := by decide +kernel
theorem d_Search_choiceForSure_0 : decode b_Search_choiceForSure 0 = .ok (.aload_n 0, 1) := by decide +kernel
theorem d_Search_choiceForSure_1 : decode b_Search_choiceForSure 1 = .ok (.getfield 40, 3) := by decide +kernel
theorem d_Search_choiceForSure_4 : decode b_Search_choiceForSure 4 = .ok (.getfield 57, 3) := by decide +kernel
theorem d_Search_choiceForSure_7 : decode b_Search_choiceForSure 7 = .ok (.ifCond .ne 58, 3) := by decide +kernel
theorem d_Search_choiceForSure_10 : decode b_Search_choiceForSure 10 = .ok (.aload_n 0, 1) := by decide +kernel
theorem d_Search_choiceForSure_11 : decode b_Search_choiceForSure 11 = .ok (.getfield 40, 3) := by decide +kernel
theorem d_Search_choiceForSure_14 : decode b_Search_choiceForSure 14 = .ok (.iconst 0, 1) := by decide +kernel
theorem d_Search_choiceForSure_15 : decode b_Search_choiceForSure 15 = .ok (.putfield 69, 3) := by decide +kernel
theorem d_Search_choiceForSure_18 : decode b_Search_choiceForSure 18 = .ok (.iconst 1, 1) := by decide +kernel
theorem d_Search_choiceForSure_19 : decode b_Search_choiceForSure 19 = .ok (.istore_n 1, 1) := by decide +kernel
theorem d_Search_choiceForSure_20 : decode b_Search_choiceForSure 20 = .ok (.iload_n 1, 1) := by decide +kernel
theorem d_Search_choiceForSure_21 : decode b_Search_choiceForSure 21 = .ok (.iconst 4, 1) := by decide +kernel
theorem d_Search_choiceForSure_22 : decode b_Search_choiceForSure 22 = .ok (.if_icmp .gt 43, 3) := by decide +kernel
theorem d_Search_choiceForSure_25 : decode b_Search_choiceForSure 25 = .ok (.aload_n 0, 1) := by decide +kernel
theorem d_Search_choiceForSure_26 : decode b_Search_choiceForSure 26 = .ok (.getfield 40, 3) := by decide +kernel
theorem d_Search_choiceForSure_29 : decode b_Search_choiceForSure 29 = .ok (.getfield 69, 3) := by decide +kernel
theorem d_Search_choiceForSure_32 : decode b_Search_choiceForSure 32 = .ok (.ifCond .ne 33, 3) := by decide +kernel
theorem d_Search_choiceForSure_35 : decode b_Search_choiceForSure 35 = .ok (.aload_n 0, 1) := by decide +kernel
theorem d_Search_choiceForSure_36 : decode b_Search_choiceForSure 36 = .ok (.getfield 40, 3) := by decide +kernel
theorem d_Search_choiceForSure_39 : decode b_Search_choiceForSure 39 = .ok (.iload_n 1, 1) := by decide +kernel
theorem d_Search_choiceForSure_40 : decode b_Search_choiceForSure 40 = .ok (.aload_n 0, 1) := by decide +kernel
theorem d_Search_choiceForSure_41 : decode b_Search_choiceForSure 41 = .ok (.getfield 50, 3) := by decide +kernel
theorem d_Search_choiceForSure_44 : decode b_Search_choiceForSure 44 = .ok (.iconst 1, 1) := by decide +kernel
theorem d_Search_choiceForSure_45 : decode b_Search_choiceForSure 45 = .ok (.isub, 1) := by decide +kernel
theorem d_Search_choiceForSure_46 : decode b_Search_choiceForSure 46 = .ok (.invokevirtual 61, 3) := by decide +kernel
theorem d_Search_choiceForSure_49 : decode b_Search_choiceForSure 49 = .ok (.aload_n 0, 1) := by decide +kernel
theorem d_Search_choiceForSure_50 : decode b_Search_choiceForSure 50 = .ok (.aload_n 0, 1) := by decide +kernel
theorem d_Search_choiceForSure_51 : decode b_Search_choiceForSure 51 = .ok (.getfield 40, 3) := by decide +kernel
theorem d_Search_choiceForSure_54 : decode b_Search_choiceForSure 54 = .ok (.iconst 0, 1) := by decide +kernel
theorem d_Search_choiceForSure_55 : decode b_Search_choiceForSure 55 = .ok (.iconst 0, 1) := by decide +kernel
theorem d_Search_choiceForSure_56 : decode b_Search_choiceForSure 56 = .ok (.invokestatic 65, 3) := by decide +kernel
theorem d_Search_choiceForSure_59 : decode b_Search_choiceForSure 59 = .ok (.iinc 1 1, 3) := by decide +kernel
theorem d_Search_choiceForSure_62 : decode b_Search_choiceForSure 62 = .ok (.goto (-42), 3) := by decide +kernel
theorem d_Search_choiceForSure_65 : decode b_Search_choiceForSure 65 = .ok (.aload_n 0, 1) := by decide +kernel
theorem d_Search_choiceForSure_66 : decode b_Search_choiceForSure 66 = .ok (.getfield 40, 3) := by decide +kernel
theorem d_Search_choiceForSure_69 : decode b_Search_choiceForSure 69 = .ok (.areturn, 1) := by decide +kernel
theorem d_Choice_sizeOrNone_0 : decode b_Choice_sizeOrNone 0 = .ok (.aload_n 0, 1) := by decide +kernel
theorem d_Choice_sizeOrNone_1 : decode b_Choice_sizeOrNone 1 = .ok (.getfield 27, 3) := by decide +kernel
theorem d_Choice_sizeOrNone_4 : decode b_Choice_sizeOrNone 4 = .ok (.ifCond .eq 10, 3) := by decide +kernel
theorem d_Choice_sizeOrNone_7 : decode b_Choice_sizeOrNone 7 = .ok (.aload_n 0, 1) := by decide +kernel
theorem d_Choice_sizeOrNone_8 : decode b_Choice_sizeOrNone 8 = .ok (.getfield 20, 3) := by decide +kernel
theorem d_Choice_sizeOrNone_11 : decode b_Choice_sizeOrNone 11 = .ok (.goto 5, 3) := by decide +kernel
theorem d_Choice_sizeOrNone_14 : decode b_Choice_sizeOrNone 14 = .ok (.bipush (-6), 2) := by decide +kernel
theorem d_Choice_sizeOrNone_16 : decode b_Choice_sizeOrNone 16 = .ok (.ireturn, 1) := by decide +kernel
theorem d_Main_bound_0 : decode b_Main_bound 0 = .ok (.aload_n 0, 1) := by decide +kernel
theorem d_Main_bound_1 : decode b_Main_bound 1 = .ok (.getfield 26, 3) := by decide +kernel
theorem d_Main_bound_4 : decode b_Main_bound 4 = .ok (.invokevirtual 181, 3) := by decide +kernel
theorem d_Main_bound_7 : decode b_Main_bound 7 = .ok (.istore_n 1, 1) := by decide +kernel
theorem d_Main_bound_8 : decode b_Main_bound 8 = .ok (.iload_n 1, 1) := by decide +kernel
theorem d_Main_bound_9 : decode b_Main_bound 9 = .ok (.iconst 1, 1) := by decide +kernel
theorem d_Main_bound_10 : decode b_Main_bound 10 = .ok (.if_icmp .ge 8, 3) := by decide +kernel
theorem d_Main_bound_13 : decode b_Main_bound 13 = .ok (.bipush (-6), 2) := by decide +kernel
theorem d_Main_bound_15 : decode b_Main_bound 15 = .ok (.goto 19, 3) := by decide +kernel
theorem d_Main_bound_18 : decode b_Main_bound 18 = .ok (.aload_n 0, 1) := by decide +kernel
theorem d_Main_bound_19 : decode b_Main_bound 19 = .ok (.getfield 26, 3) := by decide +kernel
theorem d_Main_bound_22 : decode b_Main_bound 22 = .ok (.getfield 61, 3) := by decide +kernel
theorem d_Main_bound_25 : decode b_Main_bound 25 = .ok (.invokevirtual 65, 3) := by decide +kernel
theorem d_Main_bound_28 : decode b_Main_bound 28 = .ok (.iload_n 1, 1) := by decide +kernel
theorem d_Main_bound_29 : decode b_Main_bound 29 = .ok (.iadd, 1) := by decide +kernel
theorem d_Main_bound_30 : decode b_Main_bound 30 = .ok (.iconst 1, 1) := by decide +kernel
theorem d_Main_bound_31 : decode b_Main_bound 31 = .ok (.isub, 1) := by decide +kernel
theorem d_Main_bound_32 : decode b_Main_bound 32 = .ok (.iload_n 1, 1) := by decide +kernel
theorem d_Main_bound_33 : decode b_Main_bound 33 = .ok (.idiv, 1) := by decide +kernel
theorem d_Main_bound_34 : decode b_Main_bound 34 = .ok (.ireturn, 1) := by decide +kernel
theorem d_Main_more_0 : decode b_Main_more 0 = .ok (.iload_n 1, 1) := by decide +kernel
theorem d_Main_more_1 : decode b_Main_more 1 = .ok (.iconst 0, 1) := by decide +kernel
theorem d_Main_more_2 : decode b_Main_more 2 = .ok (.iconst 1, 1) := by decide +kernel
theorem d_Main_more_3 : decode b_Main_more 3 = .ok (.invokestatic 44, 3) := by decide +kernel
theorem d_Main_more_6 : decode b_Main_more 6 = .ok (.ifCond .ne 6, 3) := by decide +kernel
theorem d_Main_more_9 : decode b_Main_more 9 = .ok (.bipush (-2), 2) := by decide +kernel
theorem d_Main_more_11 : decode b_Main_more 11 = .ok (.ireturn, 1) := by decide +kernel
theorem d_Main_more_12 : decode b_Main_more 12 = .ok (.aload_n 0, 1) := by decide +kernel
theorem d_Main_more_13 : decode b_Main_more 13 = .ok (.getfield 26, 3) := by decide +kernel
theorem d_Main_more_16 : decode b_Main_more 16 = .ok (.invokevirtual 126, 3) := by decide +kernel
theorem d_Main_more_19 : decode b_Main_more 19 = .ok (.istore_n 2, 1) := by decide +kernel
theorem d_Main_more_20 : decode b_Main_more 20 = .ok (.aload_n 0, 1) := by decide +kernel
theorem d_Main_more_21 : decode b_Main_more 21 = .ok (.getfield 26, 3) := by decide +kernel
theorem d_Main_more_24 : decode b_Main_more 24 = .ok (.iload_n 2, 1) := by decide +kernel
theorem d_Main_more_25 : decode b_Main_more 25 = .ok (.invokevirtual 184, 3) := by decide +kernel
theorem d_Main_more_28 : decode b_Main_more 28 = .ok (.istore_n 3, 1) := by decide +kernel
theorem d_Main_more_29 : decode b_Main_more 29 = .ok (.iload_n 1, 1) := by decide +kernel
theorem d_Main_more_30 : decode b_Main_more 30 = .ok (.ifCond .ne 17, 3) := by decide +kernel
theorem d_Main_more_33 : decode b_Main_more 33 = .ok (.aload_n 0, 1) := by decide +kernel
theorem d_Main_more_34 : decode b_Main_more 34 = .ok (.getfield 26, 3) := by decide +kernel
theorem d_Main_more_37 : decode b_Main_more 37 = .ok (.getfield 187, 3) := by decide +kernel
theorem d_Main_more_40 : decode b_Main_more 40 = .ok (.iload_n 3, 1) := by decide +kernel
theorem d_Main_more_41 : decode b_Main_more 41 = .ok (.invokevirtual 152, 3) := by decide +kernel
theorem d_Main_more_44 : decode b_Main_more 44 = .ok (.goto 12, 3) := by decide +kernel
theorem d_Main_more_47 : decode b_Main_more 47 = .ok (.aload_n 0, 1) := by decide +kernel
theorem d_Main_more_48 : decode b_Main_more 48 = .ok (.getfield 26, 3) := by decide +kernel
theorem d_Main_more_51 : decode b_Main_more 51 = .ok (.iload_n 2, 1) := by decide +kernel
theorem d_Main_more_52 : decode b_Main_more 52 = .ok (.iload_n 3, 1) := by decide +kernel
theorem d_Main_more_53 : decode b_Main_more 53 = .ok (.invokevirtual 190, 3) := by decide +kernel
theorem d_Main_more_56 : decode b_Main_more 56 = .ok (.ireturn, 1) := by decide +kernel
theorem d_Wheel_bestBeside_0 : decode b_Wheel_bestBeside 0 = .ok (.aload_n 0, 1) := by decide +kernel
theorem d_Wheel_bestBeside_1 : decode b_Wheel_bestBeside 1 = .ok (.iload_n 1, 1) := by decide +kernel
theorem d_Wheel_bestBeside_2 : decode b_Wheel_bestBeside 2 = .ok (.invokevirtual 117, 3) := by decide +kernel
theorem d_Wheel_bestBeside_5 : decode b_Wheel_bestBeside 5 = .ok (.iconst 0, 1) := by decide +kernel
theorem d_Wheel_bestBeside_6 : decode b_Wheel_bestBeside 6 = .ok (.istore_n 2, 1) := by decide +kernel
theorem d_Wheel_bestBeside_7 : decode b_Wheel_bestBeside 7 = .ok (.iconst (-1), 1) := by decide +kernel
theorem d_Wheel_bestBeside_8 : decode b_Wheel_bestBeside 8 = .ok (.istore_n 3, 1) := by decide +kernel
theorem d_Wheel_bestBeside_9 : decode b_Wheel_bestBeside 9 = .ok (.iconst 0, 1) := by decide +kernel
theorem d_Wheel_bestBeside_10 : decode b_Wheel_bestBeside 10 = .ok (.istore 4, 2) := by decide +kernel
theorem d_Wheel_bestBeside_12 : decode b_Wheel_bestBeside 12 = .ok (.iload 4, 2) := by decide +kernel
theorem d_Wheel_bestBeside_14 : decode b_Wheel_bestBeside 14 = .ok (.aload_n 0, 1) := by decide +kernel
theorem d_Wheel_bestBeside_15 : decode b_Wheel_bestBeside 15 = .ok (.getfield 18, 3) := by decide +kernel
theorem d_Wheel_bestBeside_18 : decode b_Wheel_bestBeside 18 = .ok (.invokevirtual 64, 3) := by decide +kernel
theorem d_Wheel_bestBeside_21 : decode b_Wheel_bestBeside 21 = .ok (.if_icmp .ge 48, 3) := by decide +kernel
theorem d_Wheel_bestBeside_24 : decode b_Wheel_bestBeside 24 = .ok (.aload_n 0, 1) := by decide +kernel
theorem d_Wheel_bestBeside_25 : decode b_Wheel_bestBeside 25 = .ok (.getfield 33, 3) := by decide +kernel
theorem d_Wheel_bestBeside_28 : decode b_Wheel_bestBeside 28 = .ok (.iconst 1, 1) := by decide +kernel
theorem d_Wheel_bestBeside_29 : decode b_Wheel_bestBeside 29 = .ok (.iconst 0, 1) := by decide +kernel
theorem d_Wheel_bestBeside_30 : decode b_Wheel_bestBeside 30 = .ok (.aload_n 0, 1) := by decide +kernel
theorem d_Wheel_bestBeside_31 : decode b_Wheel_bestBeside 31 = .ok (.getfield 26, 3) := by decide +kernel
theorem d_Wheel_bestBeside_34 : decode b_Wheel_bestBeside 34 = .ok (.iload 4, 2) := by decide +kernel
theorem d_Wheel_bestBeside_36 : decode b_Wheel_bestBeside 36 = .ok (.invokevirtual 113, 3) := by decide +kernel
theorem d_Wheel_bestBeside_39 : decode b_Wheel_bestBeside 39 = .ok (.aload_n 0, 1) := by decide +kernel
theorem d_Wheel_bestBeside_40 : decode b_Wheel_bestBeside 40 = .ok (.getfield 33, 3) := by decide +kernel
theorem d_Wheel_bestBeside_43 : decode b_Wheel_bestBeside 43 = .ok (.iconst 1, 1) := by decide +kernel
theorem d_Wheel_bestBeside_44 : decode b_Wheel_bestBeside 44 = .ok (.invokevirtual 110, 3) := by decide +kernel
theorem d_Wheel_bestBeside_47 : decode b_Wheel_bestBeside 47 = .ok (.iload_n 3, 1) := by decide +kernel
theorem d_Wheel_bestBeside_48 : decode b_Wheel_bestBeside 48 = .ok (.if_icmp .le 15, 3) := by decide +kernel
theorem d_Wheel_bestBeside_51 : decode b_Wheel_bestBeside 51 = .ok (.aload_n 0, 1) := by decide +kernel
theorem d_Wheel_bestBeside_52 : decode b_Wheel_bestBeside 52 = .ok (.getfield 33, 3) := by decide +kernel
theorem d_Wheel_bestBeside_55 : decode b_Wheel_bestBeside 55 = .ok (.iconst 1, 1) := by decide +kernel
theorem d_Wheel_bestBeside_56 : decode b_Wheel_bestBeside 56 = .ok (.invokevirtual 110, 3) := by decide +kernel
theorem d_Wheel_bestBeside_59 : decode b_Wheel_bestBeside 59 = .ok (.istore_n 3, 1) := by decide +kernel
theorem d_Wheel_bestBeside_60 : decode b_Wheel_bestBeside 60 = .ok (.iload 4, 2) := by decide +kernel
theorem d_Wheel_bestBeside_62 : decode b_Wheel_bestBeside 62 = .ok (.istore_n 2, 1) := by decide +kernel
theorem d_Wheel_bestBeside_63 : decode b_Wheel_bestBeside 63 = .ok (.iinc 4 1, 3) := by decide +kernel
theorem d_Wheel_bestBeside_66 : decode b_Wheel_bestBeside 66 = .ok (.goto (-54), 3) := by decide +kernel
theorem d_Wheel_bestBeside_69 : decode b_Wheel_bestBeside 69 = .ok (.iload_n 2, 1) := by decide +kernel
theorem d_Wheel_bestBeside_70 : decode b_Wheel_bestBeside 70 = .ok (.ireturn, 1) := by decide +kernel
theorem d_Wheel_countWonWith_0 : decode b_Wheel_countWonWith 0 = .ok (.aload_n 0, 1) := by decide +kernel
theorem d_Wheel_countWonWith_1 : decode b_Wheel_countWonWith 1 = .ok (.iload_n 1, 1) := by decide +kernel
theorem d_Wheel_countWonWith_2 : decode b_Wheel_countWonWith 2 = .ok (.invokevirtual 117, 3) := by decide +kernel
theorem d_Wheel_countWonWith_5 : decode b_Wheel_countWonWith 5 = .ok (.aload_n 0, 1) := by decide +kernel
theorem d_Wheel_countWonWith_6 : decode b_Wheel_countWonWith 6 = .ok (.getfield 33, 3) := by decide +kernel
theorem d_Wheel_countWonWith_9 : decode b_Wheel_countWonWith 9 = .ok (.iconst 1, 1) := by decide +kernel
theorem d_Wheel_countWonWith_10 : decode b_Wheel_countWonWith 10 = .ok (.iconst 0, 1) := by decide +kernel
theorem d_Wheel_countWonWith_11 : decode b_Wheel_countWonWith 11 = .ok (.aload_n 0, 1) := by decide +kernel
theorem d_Wheel_countWonWith_12 : decode b_Wheel_countWonWith 12 = .ok (.getfield 26, 3) := by decide +kernel
theorem d_Wheel_countWonWith_15 : decode b_Wheel_countWonWith 15 = .ok (.iload_n 2, 1) := by decide +kernel
theorem d_Wheel_countWonWith_16 : decode b_Wheel_countWonWith 16 = .ok (.invokevirtual 113, 3) := by decide +kernel
theorem d_Wheel_countWonWith_19 : decode b_Wheel_countWonWith 19 = .ok (.aload_n 0, 1) := by decide +kernel
theorem d_Wheel_countWonWith_20 : decode b_Wheel_countWonWith 20 = .ok (.getfield 33, 3) := by decide +kernel
theorem d_Wheel_countWonWith_23 : decode b_Wheel_countWonWith 23 = .ok (.iconst 1, 1) := by decide +kernel
theorem d_Wheel_countWonWith_24 : decode b_Wheel_countWonWith 24 = .ok (.invokevirtual 110, 3) := by decide +kernel
theorem d_Wheel_countWonWith_27 : decode b_Wheel_countWonWith 27 = .ok (.ireturn, 1) := by decide +kernel
theorem d_Main_changed_0 : decode b_Main_changed 0 = .ok (.iload_n 1, 1) := by decide +kernel
theorem d_Main_changed_1 : decode b_Main_changed 1 = .ok (.iconst 0, 1) := by decide +kernel
theorem d_Main_changed_2 : decode b_Main_changed 2 = .ok (.iconst 2, 1) := by decide +kernel
theorem d_Main_changed_3 : decode b_Main_changed 3 = .ok (.invokestatic 44, 3) := by decide +kernel
theorem d_Main_changed_6 : decode b_Main_changed 6 = .ok (.ifCond .ne 6, 3) := by decide +kernel
theorem d_Main_changed_9 : decode b_Main_changed 9 = .ok (.bipush (-2), 2) := by decide +kernel
theorem d_Main_changed_11 : decode b_Main_changed 11 = .ok (.ireturn, 1) := by decide +kernel
theorem d_Main_changed_12 : decode b_Main_changed 12 = .ok (.aload_n 0, 1) := by decide +kernel
theorem d_Main_changed_13 : decode b_Main_changed 13 = .ok (.getfield 19, 3) := by decide +kernel
theorem d_Main_changed_16 : decode b_Main_changed 16 = .ok (.getfield 92, 3) := by decide +kernel
theorem d_Main_changed_19 : decode b_Main_changed 19 = .ok (.ifCond .ne 6, 3) := by decide +kernel
theorem d_Main_changed_22 : decode b_Main_changed 22 = .ok (.bipush (-3), 2) := by decide +kernel
theorem d_Main_changed_24 : decode b_Main_changed 24 = .ok (.ireturn, 1) := by decide +kernel
theorem d_Main_changed_25 : decode b_Main_changed 25 = .ok (.aload_n 0, 1) := by decide +kernel
theorem d_Main_changed_26 : decode b_Main_changed 26 = .ok (.getfield 26, 3) := by decide +kernel
theorem d_Main_changed_29 : decode b_Main_changed 29 = .ok (.invokevirtual 193, 3) := by decide +kernel
theorem d_Main_changed_32 : decode b_Main_changed 32 = .ok (.istore_n 2, 1) := by decide +kernel
theorem d_Main_changed_33 : decode b_Main_changed 33 = .ok (.aload_n 0, 1) := by decide +kernel
theorem d_Main_changed_34 : decode b_Main_changed 34 = .ok (.getfield 26, 3) := by decide +kernel
theorem d_Main_changed_37 : decode b_Main_changed 37 = .ok (.invokevirtual 126, 3) := by decide +kernel
theorem d_Main_changed_40 : decode b_Main_changed 40 = .ok (.iconst 1, 1) := by decide +kernel
theorem d_Main_changed_41 : decode b_Main_changed 41 = .ok (.iload_n 2, 1) := by decide +kernel
theorem d_Main_changed_42 : decode b_Main_changed 42 = .ok (.ishl, 1) := by decide +kernel
theorem d_Main_changed_43 : decode b_Main_changed 43 = .ok (.iconst (-1), 1) := by decide +kernel
theorem d_Main_changed_44 : decode b_Main_changed 44 = .ok (.ixor, 1) := by decide +kernel
theorem d_Main_changed_45 : decode b_Main_changed 45 = .ok (.iand, 1) := by decide +kernel
theorem d_Main_changed_46 : decode b_Main_changed 46 = .ok (.istore_n 3, 1) := by decide +kernel
theorem d_Main_changed_47 : decode b_Main_changed 47 = .ok (.aload_n 0, 1) := by decide +kernel
theorem d_Main_changed_48 : decode b_Main_changed 48 = .ok (.getfield 26, 3) := by decide +kernel
theorem d_Main_changed_51 : decode b_Main_changed 51 = .ok (.iload_n 3, 1) := by decide +kernel
theorem d_Main_changed_52 : decode b_Main_changed 52 = .ok (.invokevirtual 184, 3) := by decide +kernel
theorem d_Main_changed_55 : decode b_Main_changed 55 = .ok (.istore 4, 2) := by decide +kernel
theorem d_Main_changed_57 : decode b_Main_changed 57 = .ok (.iload_n 1, 1) := by decide +kernel
theorem d_Main_changed_58 : decode b_Main_changed 58 = .ok (.lookupswitch 41 #[(0, 26), (1, 28)], 26) := by decide +kernel
theorem d_Main_changed_84 : decode b_Main_changed 84 = .ok (.iload_n 2, 1) := by decide +kernel
theorem d_Main_changed_85 : decode b_Main_changed 85 = .ok (.ireturn, 1) := by decide +kernel
theorem d_Main_changed_86 : decode b_Main_changed 86 = .ok (.aload_n 0, 1) := by decide +kernel
theorem d_Main_changed_87 : decode b_Main_changed 87 = .ok (.getfield 26, 3) := by decide +kernel
theorem d_Main_changed_90 : decode b_Main_changed 90 = .ok (.getfield 187, 3) := by decide +kernel
theorem d_Main_changed_93 : decode b_Main_changed 93 = .ok (.iload 4, 2) := by decide +kernel
theorem d_Main_changed_95 : decode b_Main_changed 95 = .ok (.invokevirtual 152, 3) := by decide +kernel
theorem d_Main_changed_98 : decode b_Main_changed 98 = .ok (.ireturn, 1) := by decide +kernel
theorem d_Main_changed_99 : decode b_Main_changed 99 = .ok (.aload_n 0, 1) := by decide +kernel
theorem d_Main_changed_100 : decode b_Main_changed 100 = .ok (.getfield 26, 3) := by decide +kernel
theorem d_Main_changed_103 : decode b_Main_changed 103 = .ok (.iload_n 3, 1) := by decide +kernel
theorem d_Main_changed_104 : decode b_Main_changed 104 = .ok (.iload 4, 2) := by decide +kernel
theorem d_Main_changed_106 : decode b_Main_changed 106 = .ok (.invokevirtual 190, 3) := by decide +kernel
theorem d_Main_changed_109 : decode b_Main_changed 109 = .ok (.ireturn, 1) := by decide +kernel
theorem d_Wheel_findTicketToChange_0 : decode b_Wheel_findTicketToChange 0 = .ok (.iconst 0, 1) := by decide +kernel
theorem d_Wheel_findTicketToChange_1 : decode b_Wheel_findTicketToChange 1 = .ok (.istore_n 1, 1) := by decide +kernel
theorem d_Wheel_findTicketToChange_2 : decode b_Wheel_findTicketToChange 2 = .ok (.iconst (-1), 1) := by decide +kernel
theorem d_Wheel_findTicketToChange_3 : decode b_Wheel_findTicketToChange 3 = .ok (.istore_n 2, 1) := by decide +kernel
theorem d_Wheel_findTicketToChange_4 : decode b_Wheel_findTicketToChange 4 = .ok (.iconst 0, 1) := by decide +kernel
theorem d_Wheel_findTicketToChange_5 : decode b_Wheel_findTicketToChange 5 = .ok (.istore_n 3, 1) := by decide +kernel
theorem d_Wheel_findTicketToChange_6 : decode b_Wheel_findTicketToChange 6 = .ok (.iload_n 3, 1) := by decide +kernel
theorem d_Wheel_findTicketToChange_7 : decode b_Wheel_findTicketToChange 7 = .ok (.aload_n 0, 1) := by decide +kernel
theorem d_Wheel_findTicketToChange_8 : decode b_Wheel_findTicketToChange 8 = .ok (.getfield 89, 3) := by decide +kernel
theorem d_Wheel_findTicketToChange_11 : decode b_Wheel_findTicketToChange 11 = .ok (.if_icmp .ge 46, 3) := by decide +kernel
theorem d_Wheel_findTicketToChange_14 : decode b_Wheel_findTicketToChange 14 = .ok (.aload_n 0, 1) := by decide +kernel
theorem d_Wheel_findTicketToChange_15 : decode b_Wheel_findTicketToChange 15 = .ok (.invokevirtual 120, 3) := by decide +kernel
theorem d_Wheel_findTicketToChange_18 : decode b_Wheel_findTicketToChange 18 = .ok (.iconst 1, 1) := by decide +kernel
theorem d_Wheel_findTicketToChange_19 : decode b_Wheel_findTicketToChange 19 = .ok (.iload_n 3, 1) := by decide +kernel
theorem d_Wheel_findTicketToChange_20 : decode b_Wheel_findTicketToChange 20 = .ok (.ishl, 1) := by decide +kernel
theorem d_Wheel_findTicketToChange_21 : decode b_Wheel_findTicketToChange 21 = .ok (.iconst (-1), 1) := by decide +kernel
theorem d_Wheel_findTicketToChange_22 : decode b_Wheel_findTicketToChange 22 = .ok (.ixor, 1) := by decide +kernel
theorem d_Wheel_findTicketToChange_23 : decode b_Wheel_findTicketToChange 23 = .ok (.iand, 1) := by decide +kernel
theorem d_Wheel_findTicketToChange_24 : decode b_Wheel_findTicketToChange 24 = .ok (.istore 4, 2) := by decide +kernel
theorem d_Wheel_findTicketToChange_26 : decode b_Wheel_findTicketToChange 26 = .ok (.aload_n 0, 1) := by decide +kernel
theorem d_Wheel_findTicketToChange_27 : decode b_Wheel_findTicketToChange 27 = .ok (.iload 4, 2) := by decide +kernel
theorem d_Wheel_findTicketToChange_29 : decode b_Wheel_findTicketToChange 29 = .ok (.aload_n 0, 1) := by decide +kernel
theorem d_Wheel_findTicketToChange_30 : decode b_Wheel_findTicketToChange 30 = .ok (.iload 4, 2) := by decide +kernel
theorem d_Wheel_findTicketToChange_32 : decode b_Wheel_findTicketToChange 32 = .ok (.invokevirtual 130, 3) := by decide +kernel
theorem d_Wheel_findTicketToChange_35 : decode b_Wheel_findTicketToChange 35 = .ok (.invokevirtual 133, 3) := by decide +kernel
theorem d_Wheel_findTicketToChange_38 : decode b_Wheel_findTicketToChange 38 = .ok (.istore 5, 2) := by decide +kernel
theorem d_Wheel_findTicketToChange_40 : decode b_Wheel_findTicketToChange 40 = .ok (.iload 5, 2) := by decide +kernel
theorem d_Wheel_findTicketToChange_42 : decode b_Wheel_findTicketToChange 42 = .ok (.iload_n 2, 1) := by decide +kernel
theorem d_Wheel_findTicketToChange_43 : decode b_Wheel_findTicketToChange 43 = .ok (.if_icmp .le 8, 3) := by decide +kernel
theorem d_Wheel_findTicketToChange_46 : decode b_Wheel_findTicketToChange 46 = .ok (.iload 5, 2) := by decide +kernel
theorem d_Wheel_findTicketToChange_48 : decode b_Wheel_findTicketToChange 48 = .ok (.istore_n 2, 1) := by decide +kernel
theorem d_Wheel_findTicketToChange_49 : decode b_Wheel_findTicketToChange 49 = .ok (.iload_n 3, 1) := by decide +kernel
theorem d_Wheel_findTicketToChange_50 : decode b_Wheel_findTicketToChange 50 = .ok (.istore_n 1, 1) := by decide +kernel
theorem d_Wheel_findTicketToChange_51 : decode b_Wheel_findTicketToChange 51 = .ok (.iinc 3 1, 3) := by decide +kernel
theorem d_Wheel_findTicketToChange_54 : decode b_Wheel_findTicketToChange 54 = .ok (.goto (-48), 3) := by decide +kernel
theorem d_Wheel_findTicketToChange_57 : decode b_Wheel_findTicketToChange 57 = .ok (.iload_n 1, 1) := by decide +kernel
theorem d_Wheel_findTicketToChange_58 : decode b_Wheel_findTicketToChange 58 = .ok (.ireturn, 1) := by decide +kernel
theorem d_Main_seen_0 : decode b_Main_seen 0 = .ok (.aload_n 0, 1) := by decide +kernel
theorem d_Main_seen_1 : decode b_Main_seen 1 = .ok (.getfield 19, 3) := by decide +kernel
theorem d_Main_seen_4 : decode b_Main_seen 4 = .ok (.iload_n 1, 1) := by decide +kernel
theorem d_Main_seen_5 : decode b_Main_seen 5 = .ok (.invokevirtual 95, 3) := by decide +kernel
theorem d_Main_seen_8 : decode b_Main_seen 8 = .ok (.ifCond .ne 5, 3) := by decide +kernel
theorem d_Main_seen_11 : decode b_Main_seen 11 = .ok (.iconst (-1), 1) := by decide +kernel
theorem d_Main_seen_12 : decode b_Main_seen 12 = .ok (.ireturn, 1) := by decide +kernel
theorem d_Main_seen_13 : decode b_Main_seen 13 = .ok (.iload_n 2, 1) := by decide +kernel
theorem d_Main_seen_14 : decode b_Main_seen 14 = .ok (.iconst 0, 1) := by decide +kernel
theorem d_Main_seen_15 : decode b_Main_seen 15 = .ok (.bipush 8, 2) := by decide +kernel
theorem d_Main_seen_17 : decode b_Main_seen 17 = .ok (.invokestatic 44, 3) := by decide +kernel
theorem d_Main_seen_20 : decode b_Main_seen 20 = .ok (.ifCond .eq 12, 3) := by decide +kernel
theorem d_Main_seen_23 : decode b_Main_seen 23 = .ok (.iload_n 3, 1) := by decide +kernel
theorem d_Main_seen_24 : decode b_Main_seen 24 = .ok (.iconst 0, 1) := by decide +kernel
theorem d_Main_seen_25 : decode b_Main_seen 25 = .ok (.iconst 2, 1) := by decide +kernel
theorem d_Main_seen_26 : decode b_Main_seen 26 = .ok (.invokestatic 44, 3) := by decide +kernel
theorem d_Main_seen_29 : decode b_Main_seen 29 = .ok (.ifCond .ne 6, 3) := by decide +kernel
theorem d_Main_seen_32 : decode b_Main_seen 32 = .ok (.bipush (-2), 2) := by decide +kernel
theorem d_Main_seen_34 : decode b_Main_seen 34 = .ok (.ireturn, 1) := by decide +kernel
theorem d_Main_seen_35 : decode b_Main_seen 35 = .ok (.aload_n 0, 1) := by decide +kernel
theorem d_Main_seen_36 : decode b_Main_seen 36 = .ok (.getfield 19, 3) := by decide +kernel
theorem d_Main_seen_39 : decode b_Main_seen 39 = .ok (.getfield 196, 3) := by decide +kernel
theorem d_Main_seen_42 : decode b_Main_seen 42 = .ok (.bipush 6, 2) := by decide +kernel
theorem d_Main_seen_44 : decode b_Main_seen 44 = .ok (.if_icmp .lt 6, 3) := by decide +kernel
theorem d_Main_seen_47 : decode b_Main_seen 47 = .ok (.bipush (-4), 2) := by decide +kernel
theorem d_Main_seen_49 : decode b_Main_seen 49 = .ok (.ireturn, 1) := by decide +kernel
theorem d_Main_seen_50 : decode b_Main_seen 50 = .ok (.aload_n 0, 1) := by decide +kernel
theorem d_Main_seen_51 : decode b_Main_seen 51 = .ok (.getfield 19, 3) := by decide +kernel
theorem d_Main_seen_54 : decode b_Main_seen 54 = .ok (.iload_n 1, 1) := by decide +kernel
theorem d_Main_seen_55 : decode b_Main_seen 55 = .ok (.iload_n 2, 1) := by decide +kernel
theorem d_Main_seen_56 : decode b_Main_seen 56 = .ok (.iload_n 3, 1) := by decide +kernel
theorem d_Main_seen_57 : decode b_Main_seen 57 = .ok (.invokevirtual 199, 3) := by decide +kernel
theorem d_Main_seen_60 : decode b_Main_seen 60 = .ok (.aload_n 0, 1) := by decide +kernel
theorem d_Main_seen_61 : decode b_Main_seen 61 = .ok (.getfield 19, 3) := by decide +kernel
theorem d_Main_seen_64 : decode b_Main_seen 64 = .ok (.getfield 196, 3) := by decide +kernel
theorem d_Main_seen_67 : decode b_Main_seen 67 = .ok (.ireturn, 1) := by decide +kernel
theorem d_Play_addSight_0 : decode b_Play_addSight 0 = .ok (.aload_n 0, 1) := by decide +kernel
theorem d_Play_addSight_1 : decode b_Play_addSight 1 = .ok (.getfield 23, 3) := by decide +kernel
theorem d_Play_addSight_4 : decode b_Play_addSight 4 = .ok (.aload_n 0, 1) := by decide +kernel
theorem d_Play_addSight_5 : decode b_Play_addSight 5 = .ok (.getfield 58, 3) := by decide +kernel
theorem d_Play_addSight_8 : decode b_Play_addSight 8 = .ok (.iload_n 1, 1) := by decide +kernel
theorem d_Play_addSight_9 : decode b_Play_addSight 9 = .ok (.invokevirtual 61, 3) := by decide +kernel
theorem d_Play_addSight_12 : decode b_Play_addSight 12 = .ok (.aload_n 0, 1) := by decide +kernel
theorem d_Play_addSight_13 : decode b_Play_addSight 13 = .ok (.getfield 26, 3) := by decide +kernel
theorem d_Play_addSight_16 : decode b_Play_addSight 16 = .ok (.aload_n 0, 1) := by decide +kernel
theorem d_Play_addSight_17 : decode b_Play_addSight 17 = .ok (.getfield 58, 3) := by decide +kernel
theorem d_Play_addSight_20 : decode b_Play_addSight 20 = .ok (.iload_n 2, 1) := by decide +kernel
theorem d_Play_addSight_21 : decode b_Play_addSight 21 = .ok (.invokevirtual 61, 3) := by decide +kernel
theorem d_Play_addSight_24 : decode b_Play_addSight 24 = .ok (.aload_n 0, 1) := by decide +kernel
theorem d_Play_addSight_25 : decode b_Play_addSight 25 = .ok (.getfield 29, 3) := by decide +kernel
theorem d_Play_addSight_28 : decode b_Play_addSight 28 = .ok (.aload_n 0, 1) := by decide +kernel
theorem d_Play_addSight_29 : decode b_Play_addSight 29 = .ok (.getfield 58, 3) := by decide +kernel
theorem d_Play_addSight_32 : decode b_Play_addSight 32 = .ok (.iload_n 3, 1) := by decide +kernel
theorem d_Play_addSight_33 : decode b_Play_addSight 33 = .ok (.invokevirtual 61, 3) := by decide +kernel
theorem d_Play_addSight_36 : decode b_Play_addSight 36 = .ok (.aload_n 0, 1) := by decide +kernel
theorem d_Play_addSight_37 : decode b_Play_addSight 37 = .ok (.dup, 1) := by decide +kernel
theorem d_Play_addSight_38 : decode b_Play_addSight 38 = .ok (.getfield 58, 3) := by decide +kernel
theorem d_Play_addSight_41 : decode b_Play_addSight 41 = .ok (.iconst 1, 1) := by decide +kernel
theorem d_Play_addSight_42 : decode b_Play_addSight 42 = .ok (.iadd, 1) := by decide +kernel
theorem d_Play_addSight_43 : decode b_Play_addSight 43 = .ok (.putfield 58, 3) := by decide +kernel
theorem d_Play_addSight_46 : decode b_Play_addSight 46 = .ok (.return_, 1) := by decide +kernel
theorem d_Main_forget_0 : decode b_Main_forget 0 = .ok (.aload_n 0, 1) := by decide +kernel
theorem d_Main_forget_1 : decode b_Main_forget 1 = .ok (.getfield 19, 3) := by decide +kernel
theorem d_Main_forget_4 : decode b_Main_forget 4 = .ok (.getfield 196, 3) := by decide +kernel
theorem d_Main_forget_7 : decode b_Main_forget 7 = .ok (.istore_n 1, 1) := by decide +kernel
theorem d_Main_forget_8 : decode b_Main_forget 8 = .ok (.aload_n 0, 1) := by decide +kernel
theorem d_Main_forget_9 : decode b_Main_forget 9 = .ok (.getfield 19, 3) := by decide +kernel
theorem d_Main_forget_12 : decode b_Main_forget 12 = .ok (.iconst 0, 1) := by decide +kernel
theorem d_Main_forget_13 : decode b_Main_forget 13 = .ok (.putfield 196, 3) := by decide +kernel
theorem d_Main_forget_16 : decode b_Main_forget 16 = .ok (.iload_n 1, 1) := by decide +kernel
theorem d_Main_forget_17 : decode b_Main_forget 17 = .ok (.ireturn, 1) := by decide +kernel
theorem d_Main_fits_0 : decode b_Main_fits 0 = .ok (.iconst 0, 1) := by decide +kernel
theorem d_Main_fits_1 : decode b_Main_fits 1 = .ok (.istore_n 2, 1) := by decide +kernel
theorem d_Main_fits_2 : decode b_Main_fits 2 = .ok (.iconst 0, 1) := by decide +kernel
theorem d_Main_fits_3 : decode b_Main_fits 3 = .ok (.istore_n 3, 1) := by decide +kernel
theorem d_Main_fits_4 : decode b_Main_fits 4 = .ok (.iload_n 3, 1) := by decide +kernel
theorem d_Main_fits_5 : decode b_Main_fits 5 = .ok (.aload_n 0, 1) := by decide +kernel
theorem d_Main_fits_6 : decode b_Main_fits 6 = .ok (.getfield 26, 3) := by decide +kernel
theorem d_Main_fits_9 : decode b_Main_fits 9 = .ok (.getfield 61, 3) := by decide +kernel
theorem d_Main_fits_12 : decode b_Main_fits 12 = .ok (.invokevirtual 65, 3) := by decide +kernel
theorem d_Main_fits_15 : decode b_Main_fits 15 = .ok (.if_icmp .ge 45, 3) := by decide +kernel
theorem d_Main_fits_18 : decode b_Main_fits 18 = .ok (.aload_n 0, 1) := by decide +kernel
theorem d_Main_fits_19 : decode b_Main_fits 19 = .ok (.getfield 26, 3) := by decide +kernel
theorem d_Main_fits_22 : decode b_Main_fits 22 = .ok (.getfield 61, 3) := by decide +kernel
theorem d_Main_fits_25 : decode b_Main_fits 25 = .ok (.iload_n 3, 1) := by decide +kernel
theorem d_Main_fits_26 : decode b_Main_fits 26 = .ok (.invokevirtual 152, 3) := by decide +kernel
theorem d_Main_fits_29 : decode b_Main_fits 29 = .ok (.istore 4, 2) := by decide +kernel
theorem d_Main_fits_31 : decode b_Main_fits 31 = .ok (.aload_n 0, 1) := by decide +kernel
theorem d_Main_fits_32 : decode b_Main_fits 32 = .ok (.getfield 19, 3) := by decide +kernel
theorem d_Main_fits_35 : decode b_Main_fits 35 = .ok (.iload 4, 2) := by decide +kernel
theorem d_Main_fits_37 : decode b_Main_fits 37 = .ok (.invokevirtual 203, 3) := by decide +kernel
theorem d_Main_fits_40 : decode b_Main_fits 40 = .ok (.ifCond .eq 14, 3) := by decide +kernel
theorem d_Main_fits_43 : decode b_Main_fits 43 = .ok (.iload_n 2, 1) := by decide +kernel
theorem d_Main_fits_44 : decode b_Main_fits 44 = .ok (.iload_n 1, 1) := by decide +kernel
theorem d_Main_fits_45 : decode b_Main_fits 45 = .ok (.if_icmp .ne 6, 3) := by decide +kernel
theorem d_Main_fits_48 : decode b_Main_fits 48 = .ok (.iload 4, 2) := by decide +kernel
theorem d_Main_fits_50 : decode b_Main_fits 50 = .ok (.ireturn, 1) := by decide +kernel
theorem d_Main_fits_51 : decode b_Main_fits 51 = .ok (.iinc 2 1, 3) := by decide +kernel
theorem d_Main_fits_54 : decode b_Main_fits 54 = .ok (.iinc 3 1, 3) := by decide +kernel
theorem d_Main_fits_57 : decode b_Main_fits 57 = .ok (.goto (-53), 3) := by decide +kernel
theorem d_Main_fits_60 : decode b_Main_fits 60 = .ok (.iload_n 1, 1) := by decide +kernel
theorem d_Main_fits_61 : decode b_Main_fits 61 = .ok (.iconst (-1), 1) := by decide +kernel
theorem d_Main_fits_62 : decode b_Main_fits 62 = .ok (.if_icmp .ne 7, 3) := by decide +kernel
theorem d_Main_fits_65 : decode b_Main_fits 65 = .ok (.iload_n 2, 1) := by decide +kernel
theorem d_Main_fits_66 : decode b_Main_fits 66 = .ok (.goto 5, 3) := by decide +kernel
theorem d_Main_fits_69 : decode b_Main_fits 69 = .ok (.bipush (-6), 2) := by decide +kernel
theorem d_Main_fits_71 : decode b_Main_fits 71 = .ok (.ireturn, 1) := by decide +kernel
theorem d_Play_holdsSights_0 : decode b_Play_holdsSights 0 = .ok (.iconst 0, 1) := by decide +kernel
theorem d_Play_holdsSights_1 : decode b_Play_holdsSights 1 = .ok (.istore_n 2, 1) := by decide +kernel
theorem d_Play_holdsSights_2 : decode b_Play_holdsSights 2 = .ok (.iload_n 2, 1) := by decide +kernel
theorem d_Play_holdsSights_3 : decode b_Play_holdsSights 3 = .ok (.aload_n 0, 1) := by decide +kernel
theorem d_Play_holdsSights_4 : decode b_Play_holdsSights 4 = .ok (.getfield 58, 3) := by decide +kernel
theorem d_Play_holdsSights_7 : decode b_Play_holdsSights 7 = .ok (.if_icmp .ge 20, 3) := by decide +kernel
theorem d_Play_holdsSights_10 : decode b_Play_holdsSights 10 = .ok (.aload_n 0, 1) := by decide +kernel
theorem d_Play_holdsSights_11 : decode b_Play_holdsSights 11 = .ok (.iload_n 2, 1) := by decide +kernel
theorem d_Play_holdsSights_12 : decode b_Play_holdsSights 12 = .ok (.iload_n 1, 1) := by decide +kernel
theorem d_Play_holdsSights_13 : decode b_Play_holdsSights 13 = .ok (.invokevirtual 94, 3) := by decide +kernel
theorem d_Play_holdsSights_16 : decode b_Play_holdsSights 16 = .ok (.ifCond .ne 5, 3) := by decide +kernel
theorem d_Play_holdsSights_19 : decode b_Play_holdsSights 19 = .ok (.iconst 0, 1) := by decide +kernel
theorem d_Play_holdsSights_20 : decode b_Play_holdsSights 20 = .ok (.ireturn, 1) := by decide +kernel
theorem d_Play_holdsSights_21 : decode b_Play_holdsSights 21 = .ok (.iinc 2 1, 3) := by decide +kernel
theorem d_Play_holdsSights_24 : decode b_Play_holdsSights 24 = .ok (.goto (-22), 3) := by decide +kernel
theorem d_Play_holdsSights_27 : decode b_Play_holdsSights 27 = .ok (.iconst 1, 1) := by decide +kernel
theorem d_Play_holdsSights_28 : decode b_Play_holdsSights 28 = .ok (.ireturn, 1) := by decide +kernel
theorem d_Play_holdsSight_0 : decode b_Play_holdsSight 0 = .ok (.aload_n 0, 1) := by decide +kernel
theorem d_Play_holdsSight_1 : decode b_Play_holdsSight 1 = .ok (.aload_n 0, 1) := by decide +kernel
theorem d_Play_holdsSight_2 : decode b_Play_holdsSight 2 = .ok (.getfield 23, 3) := by decide +kernel
theorem d_Play_holdsSight_5 : decode b_Play_holdsSight 5 = .ok (.iload_n 1, 1) := by decide +kernel
theorem d_Play_holdsSight_6 : decode b_Play_holdsSight 6 = .ok (.invokevirtual 87, 3) := by decide +kernel
theorem d_Play_holdsSight_9 : decode b_Play_holdsSight 9 = .ok (.iload_n 2, 1) := by decide +kernel
theorem d_Play_holdsSight_10 : decode b_Play_holdsSight 10 = .ok (.invokevirtual 90, 3) := by decide +kernel
theorem d_Play_holdsSight_13 : decode b_Play_holdsSight 13 = .ok (.istore_n 3, 1) := by decide +kernel
theorem d_Play_holdsSight_14 : decode b_Play_holdsSight 14 = .ok (.aload_n 0, 1) := by decide +kernel
theorem d_Play_holdsSight_15 : decode b_Play_holdsSight 15 = .ok (.getfield 26, 3) := by decide +kernel
theorem d_Play_holdsSight_18 : decode b_Play_holdsSight 18 = .ok (.iload_n 1, 1) := by decide +kernel
theorem d_Play_holdsSight_19 : decode b_Play_holdsSight 19 = .ok (.invokevirtual 87, 3) := by decide +kernel
theorem d_Play_holdsSight_22 : decode b_Play_holdsSight 22 = .ok (.istore 4, 2) := by decide +kernel
theorem d_Play_holdsSight_24 : decode b_Play_holdsSight 24 = .ok (.aload_n 0, 1) := by decide +kernel
theorem d_Play_holdsSight_25 : decode b_Play_holdsSight 25 = .ok (.getfield 29, 3) := by decide +kernel
theorem d_Play_holdsSight_28 : decode b_Play_holdsSight 28 = .ok (.iload_n 1, 1) := by decide +kernel
theorem d_Play_holdsSight_29 : decode b_Play_holdsSight 29 = .ok (.invokevirtual 87, 3) := by decide +kernel
theorem d_Play_holdsSight_32 : decode b_Play_holdsSight 32 = .ok (.lookupswitch 52 #[(0, 28), (1, 40)], 28) := by decide +kernel
theorem d_Play_holdsSight_60 : decode b_Play_holdsSight 60 = .ok (.iload_n 3, 1) := by decide +kernel
theorem d_Play_holdsSight_61 : decode b_Play_holdsSight 61 = .ok (.iload 4, 2) := by decide +kernel
theorem d_Play_holdsSight_63 : decode b_Play_holdsSight 63 = .ok (.if_icmp .ne 7, 3) := by decide +kernel
theorem d_Play_holdsSight_66 : decode b_Play_holdsSight 66 = .ok (.iconst 1, 1) := by decide +kernel
theorem d_Play_holdsSight_67 : decode b_Play_holdsSight 67 = .ok (.goto 4, 3) := by decide +kernel
theorem d_Play_holdsSight_70 : decode b_Play_holdsSight 70 = .ok (.iconst 0, 1) := by decide +kernel
theorem d_Play_holdsSight_71 : decode b_Play_holdsSight 71 = .ok (.ireturn, 1) := by decide +kernel
theorem d_Play_holdsSight_72 : decode b_Play_holdsSight 72 = .ok (.iload_n 3, 1) := by decide +kernel
theorem d_Play_holdsSight_73 : decode b_Play_holdsSight 73 = .ok (.iload 4, 2) := by decide +kernel
theorem d_Play_holdsSight_75 : decode b_Play_holdsSight 75 = .ok (.if_icmp .lt 7, 3) := by decide +kernel
theorem d_Play_holdsSight_78 : decode b_Play_holdsSight 78 = .ok (.iconst 1, 1) := by decide +kernel
theorem d_Play_holdsSight_79 : decode b_Play_holdsSight 79 = .ok (.goto 4, 3) := by decide +kernel
theorem d_Play_holdsSight_82 : decode b_Play_holdsSight 82 = .ok (.iconst 0, 1) := by decide +kernel
theorem d_Play_holdsSight_83 : decode b_Play_holdsSight 83 = .ok (.ireturn, 1) := by decide +kernel
theorem d_Play_holdsSight_84 : decode b_Play_holdsSight 84 = .ok (.iload_n 3, 1) := by decide +kernel
theorem d_Play_holdsSight_85 : decode b_Play_holdsSight 85 = .ok (.iload 4, 2) := by decide +kernel
theorem d_Play_holdsSight_87 : decode b_Play_holdsSight 87 = .ok (.if_icmp .ge 7, 3) := by decide +kernel
theorem d_Play_holdsSight_90 : decode b_Play_holdsSight 90 = .ok (.iconst 1, 1) := by decide +kernel
theorem d_Play_holdsSight_91 : decode b_Play_holdsSight 91 = .ok (.goto 4, 3) := by decide +kernel
theorem d_Play_holdsSight_94 : decode b_Play_holdsSight 94 = .ok (.iconst 0, 1) := by decide +kernel
theorem d_Play_holdsSight_95 : decode b_Play_holdsSight 95 = .ok (.ireturn, 1) := by decide +kernel
theorem d_Main_surely_0 : decode b_Main_surely 0 = .ok (.iload_n 1, 1) := by decide +kernel
theorem d_Main_surely_1 : decode b_Main_surely 1 = .ok (.iconst 0, 1) := by decide +kernel
theorem d_Main_surely_2 : decode b_Main_surely 2 = .ok (.iconst 1, 1) := by decide +kernel
theorem d_Main_surely_3 : decode b_Main_surely 3 = .ok (.invokestatic 44, 3) := by decide +kernel
theorem d_Main_surely_6 : decode b_Main_surely 6 = .ok (.ifCond .ne 6, 3) := by decide +kernel
theorem d_Main_surely_9 : decode b_Main_surely 9 = .ok (.bipush (-2), 2) := by decide +kernel
theorem d_Main_surely_11 : decode b_Main_surely 11 = .ok (.ireturn, 1) := by decide +kernel
theorem d_Main_surely_12 : decode b_Main_surely 12 = .ok (.aload_n 0, 1) := by decide +kernel
theorem d_Main_surely_13 : decode b_Main_surely 13 = .ok (.getfield 19, 3) := by decide +kernel
theorem d_Main_surely_16 : decode b_Main_surely 16 = .ok (.invokevirtual 206, 3) := by decide +kernel
theorem d_Main_surely_19 : decode b_Main_surely 19 = .ok (.istore_n 2, 1) := by decide +kernel
theorem d_Main_surely_20 : decode b_Main_surely 20 = .ok (.iload_n 2, 1) := by decide +kernel
theorem d_Main_surely_21 : decode b_Main_surely 21 = .ok (.istore_n 3, 1) := by decide +kernel
theorem d_Main_surely_22 : decode b_Main_surely 22 = .ok (.iconst 0, 1) := by decide +kernel
theorem d_Main_surely_23 : decode b_Main_surely 23 = .ok (.istore 4, 2) := by decide +kernel
theorem d_Main_surely_25 : decode b_Main_surely 25 = .ok (.iconst 0, 1) := by decide +kernel
theorem d_Main_surely_26 : decode b_Main_surely 26 = .ok (.istore 5, 2) := by decide +kernel
theorem d_Main_surely_28 : decode b_Main_surely 28 = .ok (.iload 5, 2) := by decide +kernel
theorem d_Main_surely_30 : decode b_Main_surely 30 = .ok (.aload_n 0, 1) := by decide +kernel
theorem d_Main_surely_31 : decode b_Main_surely 31 = .ok (.getfield 26, 3) := by decide +kernel
theorem d_Main_surely_34 : decode b_Main_surely 34 = .ok (.getfield 61, 3) := by decide +kernel
theorem d_Main_surely_37 : decode b_Main_surely 37 = .ok (.invokevirtual 65, 3) := by decide +kernel
theorem d_Main_surely_40 : decode b_Main_surely 40 = .ok (.if_icmp .ge 47, 3) := by decide +kernel
theorem d_Main_surely_43 : decode b_Main_surely 43 = .ok (.aload_n 0, 1) := by decide +kernel
theorem d_Main_surely_44 : decode b_Main_surely 44 = .ok (.getfield 26, 3) := by decide +kernel
theorem d_Main_surely_47 : decode b_Main_surely 47 = .ok (.getfield 61, 3) := by decide +kernel
theorem d_Main_surely_50 : decode b_Main_surely 50 = .ok (.iload 5, 2) := by decide +kernel
theorem d_Main_surely_52 : decode b_Main_surely 52 = .ok (.invokevirtual 152, 3) := by decide +kernel
theorem d_Main_surely_55 : decode b_Main_surely 55 = .ok (.istore 6, 2) := by decide +kernel
theorem d_Main_surely_57 : decode b_Main_surely 57 = .ok (.aload_n 0, 1) := by decide +kernel
theorem d_Main_surely_58 : decode b_Main_surely 58 = .ok (.getfield 19, 3) := by decide +kernel
theorem d_Main_surely_61 : decode b_Main_surely 61 = .ok (.iload 6, 2) := by decide +kernel
theorem d_Main_surely_63 : decode b_Main_surely 63 = .ok (.invokevirtual 203, 3) := by decide +kernel
theorem d_Main_surely_66 : decode b_Main_surely 66 = .ok (.ifCond .eq 15, 3) := by decide +kernel
theorem d_Main_surely_69 : decode b_Main_surely 69 = .ok (.iload_n 3, 1) := by decide +kernel
theorem d_Main_surely_70 : decode b_Main_surely 70 = .ok (.iload 6, 2) := by decide +kernel
theorem d_Main_surely_72 : decode b_Main_surely 72 = .ok (.iand, 1) := by decide +kernel
theorem d_Main_surely_73 : decode b_Main_surely 73 = .ok (.istore_n 3, 1) := by decide +kernel
theorem d_Main_surely_74 : decode b_Main_surely 74 = .ok (.iload 4, 2) := by decide +kernel
theorem d_Main_surely_76 : decode b_Main_surely 76 = .ok (.iload 6, 2) := by decide +kernel
theorem d_Main_surely_78 : decode b_Main_surely 78 = .ok (.ior, 1) := by decide +kernel
theorem d_Main_surely_79 : decode b_Main_surely 79 = .ok (.istore 4, 2) := by decide +kernel
theorem d_Main_surely_81 : decode b_Main_surely 81 = .ok (.iinc 5 1, 3) := by decide +kernel
theorem d_Main_surely_84 : decode b_Main_surely 84 = .ok (.goto (-56), 3) := by decide +kernel
theorem d_Main_surely_87 : decode b_Main_surely 87 = .ok (.iload 4, 2) := by decide +kernel
theorem d_Main_surely_89 : decode b_Main_surely 89 = .ok (.ifCond .ne 6, 3) := by decide +kernel
theorem d_Main_surely_92 : decode b_Main_surely 92 = .ok (.bipush (-5), 2) := by decide +kernel
theorem d_Main_surely_94 : decode b_Main_surely 94 = .ok (.ireturn, 1) := by decide +kernel
theorem d_Main_surely_95 : decode b_Main_surely 95 = .ok (.iload_n 1, 1) := by decide +kernel
theorem d_Main_surely_96 : decode b_Main_surely 96 = .ok (.ifCond .ne 7, 3) := by decide +kernel
theorem d_Main_surely_99 : decode b_Main_surely 99 = .ok (.iload_n 3, 1) := by decide +kernel
theorem d_Main_surely_100 : decode b_Main_surely 100 = .ok (.goto 9, 3) := by decide +kernel
theorem d_Main_surely_103 : decode b_Main_surely 103 = .ok (.iload_n 2, 1) := by decide +kernel
theorem d_Main_surely_104 : decode b_Main_surely 104 = .ok (.iload 4, 2) := by decide +kernel
theorem d_Main_surely_106 : decode b_Main_surely 106 = .ok (.iconst (-1), 1) := by decide +kernel
theorem d_Main_surely_107 : decode b_Main_surely 107 = .ok (.ixor, 1) := by decide +kernel
theorem d_Main_surely_108 : decode b_Main_surely 108 = .ok (.iand, 1) := by decide +kernel
theorem d_Main_surely_109 : decode b_Main_surely 109 = .ok (.ireturn, 1) := by decide +kernel
theorem d_Main_alone_0 : decode b_Main_alone 0 = .ok (.aload_n 0, 1) := by decide +kernel
theorem d_Main_alone_1 : decode b_Main_alone 1 = .ok (.getfield 26, 3) := by decide +kernel
theorem d_Main_alone_4 : decode b_Main_alone 4 = .ok (.invokevirtual 126, 3) := by decide +kernel
theorem d_Main_alone_7 : decode b_Main_alone 7 = .ok (.istore_n 3, 1) := by decide +kernel
theorem d_Main_alone_8 : decode b_Main_alone 8 = .ok (.iload_n 1, 1) := by decide +kernel
theorem d_Main_alone_9 : decode b_Main_alone 9 = .ok (.iload_n 3, 1) := by decide +kernel
theorem d_Main_alone_10 : decode b_Main_alone 10 = .ok (.invokestatic 209, 3) := by decide +kernel
theorem d_Main_alone_13 : decode b_Main_alone 13 = .ok (.ifCond .eq 11, 3) := by decide +kernel
theorem d_Main_alone_16 : decode b_Main_alone 16 = .ok (.iload_n 2, 1) := by decide +kernel
theorem d_Main_alone_17 : decode b_Main_alone 17 = .ok (.iload_n 3, 1) := by decide +kernel
theorem d_Main_alone_18 : decode b_Main_alone 18 = .ok (.invokestatic 209, 3) := by decide +kernel
theorem d_Main_alone_21 : decode b_Main_alone 21 = .ok (.ifCond .ne 6, 3) := by decide +kernel
theorem d_Main_alone_24 : decode b_Main_alone 24 = .ok (.bipush (-2), 2) := by decide +kernel
theorem d_Main_alone_26 : decode b_Main_alone 26 = .ok (.ireturn, 1) := by decide +kernel
theorem d_Main_alone_27 : decode b_Main_alone 27 = .ok (.aload_n 0, 1) := by decide +kernel
theorem d_Main_alone_28 : decode b_Main_alone 28 = .ok (.getfield 26, 3) := by decide +kernel
theorem d_Main_alone_31 : decode b_Main_alone 31 = .ok (.iload_n 1, 1) := by decide +kernel
theorem d_Main_alone_32 : decode b_Main_alone 32 = .ok (.iload_n 2, 1) := by decide +kernel
theorem d_Main_alone_33 : decode b_Main_alone 33 = .ok (.ior, 1) := by decide +kernel
theorem d_Main_alone_34 : decode b_Main_alone 34 = .ok (.invokevirtual 129, 3) := by decide +kernel
theorem d_Main_alone_37 : decode b_Main_alone 37 = .ok (.aload_n 0, 1) := by decide +kernel
theorem d_Main_alone_38 : decode b_Main_alone 38 = .ok (.getfield 26, 3) := by decide +kernel
theorem d_Main_alone_41 : decode b_Main_alone 41 = .ok (.iload_n 2, 1) := by decide +kernel
theorem d_Main_alone_42 : decode b_Main_alone 42 = .ok (.invokevirtual 129, 3) := by decide +kernel
theorem d_Main_alone_45 : decode b_Main_alone 45 = .ok (.isub, 1) := by decide +kernel
theorem d_Main_alone_46 : decode b_Main_alone 46 = .ok (.ireturn, 1) := by decide +kernel
theorem d_Main_year_0 : decode b_Main_year 0 = .ok (.iload_n 1, 1) := by decide +kernel
theorem d_Main_year_1 : decode b_Main_year 1 = .ok (.iconst 0, 1) := by decide +kernel
theorem d_Main_year_2 : decode b_Main_year 2 = .ok (.sipush 9999, 3) := by decide +kernel
theorem d_Main_year_5 : decode b_Main_year 5 = .ok (.invokestatic 44, 3) := by decide +kernel
theorem d_Main_year_8 : decode b_Main_year 8 = .ok (.ifCond .eq 22, 3) := by decide +kernel
theorem d_Main_year_11 : decode b_Main_year 11 = .ok (.iload_n 2, 1) := by decide +kernel
theorem d_Main_year_12 : decode b_Main_year 12 = .ok (.iconst 1, 1) := by decide +kernel
theorem d_Main_year_13 : decode b_Main_year 13 = .ok (.bipush 99, 2) := by decide +kernel
theorem d_Main_year_15 : decode b_Main_year 15 = .ok (.invokestatic 44, 3) := by decide +kernel
theorem d_Main_year_18 : decode b_Main_year 18 = .ok (.ifCond .eq 12, 3) := by decide +kernel
theorem d_Main_year_21 : decode b_Main_year 21 = .ok (.iload_n 3, 1) := by decide +kernel
theorem d_Main_year_22 : decode b_Main_year 22 = .ok (.iconst 0, 1) := by decide +kernel
theorem d_Main_year_23 : decode b_Main_year 23 = .ok (.iconst 1, 1) := by decide +kernel
theorem d_Main_year_24 : decode b_Main_year 24 = .ok (.invokestatic 44, 3) := by decide +kernel
theorem d_Main_year_27 : decode b_Main_year 27 = .ok (.ifCond .ne 6, 3) := by decide +kernel
theorem d_Main_year_30 : decode b_Main_year 30 = .ok (.bipush (-2), 2) := by decide +kernel
theorem d_Main_year_32 : decode b_Main_year 32 = .ok (.ireturn, 1) := by decide +kernel
theorem d_Main_year_33 : decode b_Main_year 33 = .ok (.aload_n 0, 1) := by decide +kernel
theorem d_Main_year_34 : decode b_Main_year 34 = .ok (.getfield 26, 3) := by decide +kernel
theorem d_Main_year_37 : decode b_Main_year 37 = .ok (.getfield 61, 3) := by decide +kernel
theorem d_Main_year_40 : decode b_Main_year 40 = .ok (.invokevirtual 65, 3) := by decide +kernel
theorem d_Main_year_43 : decode b_Main_year 43 = .ok (.istore 4, 2) := by decide +kernel
theorem d_Main_year_45 : decode b_Main_year 45 = .ok (.iload_n 1, 1) := by decide +kernel
theorem d_Main_year_46 : decode b_Main_year 46 = .ok (.istore 5, 2) := by decide +kernel
theorem d_Main_year_48 : decode b_Main_year 48 = .ok (.iconst 0, 1) := by decide +kernel
theorem d_Main_year_49 : decode b_Main_year 49 = .ok (.istore 6, 2) := by decide +kernel
theorem d_Main_year_51 : decode b_Main_year 51 = .ok (.iconst 0, 1) := by decide +kernel
theorem d_Main_year_52 : decode b_Main_year 52 = .ok (.istore 7, 2) := by decide +kernel
theorem d_Main_year_54 : decode b_Main_year 54 = .ok (.iconst 0, 1) := by decide +kernel
theorem d_Main_year_55 : decode b_Main_year 55 = .ok (.istore 8, 2) := by decide +kernel
theorem d_Main_year_57 : decode b_Main_year 57 = .ok (.iload 8, 2) := by decide +kernel
theorem d_Main_year_59 : decode b_Main_year 59 = .ok (.iload_n 2, 1) := by decide +kernel
theorem d_Main_year_60 : decode b_Main_year 60 = .ok (.if_icmp .ge 85, 3) := by decide +kernel
theorem d_Main_year_63 : decode b_Main_year 63 = .ok (.bipush 75, 2) := by decide +kernel
theorem d_Main_year_65 : decode b_Main_year 65 = .ok (.iload 5, 2) := by decide +kernel
theorem d_Main_year_67 : decode b_Main_year 67 = .ok (.imul, 1) := by decide +kernel
theorem d_Main_year_68 : decode b_Main_year 68 = .ok (.bipush 74, 2) := by decide +kernel
theorem d_Main_year_70 : decode b_Main_year 70 = .ok (.iadd, 1) := by decide +kernel
theorem d_Main_year_71 : decode b_Main_year 71 = .ok (.ldc 213, 2) := by decide +kernel
theorem d_Main_year_73 : decode b_Main_year 73 = .ok (.irem, 1) := by decide +kernel
theorem d_Main_year_74 : decode b_Main_year 74 = .ok (.istore 5, 2) := by decide +kernel
theorem d_Main_year_76 : decode b_Main_year 76 = .ok (.aload_n 0, 1) := by decide +kernel
theorem d_Main_year_77 : decode b_Main_year 77 = .ok (.getfield 26, 3) := by decide +kernel
theorem d_Main_year_80 : decode b_Main_year 80 = .ok (.getfield 61, 3) := by decide +kernel
theorem d_Main_year_83 : decode b_Main_year 83 = .ok (.iload 4, 2) := by decide +kernel
theorem d_Main_year_85 : decode b_Main_year 85 = .ok (.iconst 1, 1) := by decide +kernel
theorem d_Main_year_86 : decode b_Main_year 86 = .ok (.if_icmp .ge 7, 3) := by decide +kernel
theorem d_Main_year_89 : decode b_Main_year 89 = .ok (.iconst 0, 1) := by decide +kernel
theorem d_Main_year_90 : decode b_Main_year 90 = .ok (.goto 8, 3) := by decide +kernel
theorem d_Main_year_93 : decode b_Main_year 93 = .ok (.iload 5, 2) := by decide +kernel
theorem d_Main_year_95 : decode b_Main_year 95 = .ok (.iload 4, 2) := by decide +kernel
theorem d_Main_year_97 : decode b_Main_year 97 = .ok (.irem, 1) := by decide +kernel
theorem d_Main_year_98 : decode b_Main_year 98 = .ok (.invokevirtual 152, 3) := by decide +kernel
theorem d_Main_year_101 : decode b_Main_year 101 = .ok (.istore 9, 2) := by decide +kernel
theorem d_Main_year_103 : decode b_Main_year 103 = .ok (.iload 6, 2) := by decide +kernel
theorem d_Main_year_105 : decode b_Main_year 105 = .ok (.aload_n 0, 1) := by decide +kernel
theorem d_Main_year_106 : decode b_Main_year 106 = .ok (.getfield 19, 3) := by decide +kernel
theorem d_Main_year_109 : decode b_Main_year 109 = .ok (.iload 9, 2) := by decide +kernel
theorem d_Main_year_111 : decode b_Main_year 111 = .ok (.invokevirtual 214, 3) := by decide +kernel
theorem d_Main_year_114 : decode b_Main_year 114 = .ok (.ifCond .eq 7, 3) := by decide +kernel
theorem d_Main_year_117 : decode b_Main_year 117 = .ok (.iconst 1, 1) := by decide +kernel
theorem d_Main_year_118 : decode b_Main_year 118 = .ok (.goto 4, 3) := by decide +kernel
theorem d_Main_year_121 : decode b_Main_year 121 = .ok (.iconst 0, 1) := by decide +kernel
theorem d_Main_year_122 : decode b_Main_year 122 = .ok (.iadd, 1) := by decide +kernel
theorem d_Main_year_123 : decode b_Main_year 123 = .ok (.istore 6, 2) := by decide +kernel
theorem d_Main_year_125 : decode b_Main_year 125 = .ok (.iload 7, 2) := by decide +kernel
theorem d_Main_year_127 : decode b_Main_year 127 = .ok (.aload_n 0, 1) := by decide +kernel
theorem d_Main_year_128 : decode b_Main_year 128 = .ok (.getfield 19, 3) := by decide +kernel
theorem d_Main_year_131 : decode b_Main_year 131 = .ok (.iload 9, 2) := by decide +kernel
theorem d_Main_year_133 : decode b_Main_year 133 = .ok (.invokevirtual 153, 3) := by decide +kernel
theorem d_Main_year_136 : decode b_Main_year 136 = .ok (.iadd, 1) := by decide +kernel
theorem d_Main_year_137 : decode b_Main_year 137 = .ok (.istore 7, 2) := by decide +kernel
theorem d_Main_year_139 : decode b_Main_year 139 = .ok (.iinc 8 1, 3) := by decide +kernel
theorem d_Main_year_142 : decode b_Main_year 142 = .ok (.goto (-85), 3) := by decide +kernel
theorem d_Main_year_145 : decode b_Main_year 145 = .ok (.iload_n 3, 1) := by decide +kernel
theorem d_Main_year_146 : decode b_Main_year 146 = .ok (.ifCond .ne 8, 3) := by decide +kernel
theorem d_Main_year_149 : decode b_Main_year 149 = .ok (.iload 6, 2) := by decide +kernel
theorem d_Main_year_151 : decode b_Main_year 151 = .ok (.goto 5, 3) := by decide +kernel
theorem d_Main_year_154 : decode b_Main_year 154 = .ok (.iload 7, 2) := by decide +kernel
theorem d_Main_year_156 : decode b_Main_year 156 = .ok (.ireturn, 1) := by decide +kernel
theorem d_Play_isWon_0 : decode b_Play_isWon 0 = .ok (.iconst 0, 1) := by decide +kernel
theorem d_Play_isWon_1 : decode b_Play_isWon 1 = .ok (.istore_n 2, 1) := by decide +kernel
theorem d_Play_isWon_2 : decode b_Play_isWon 2 = .ok (.iload_n 2, 1) := by decide +kernel
theorem d_Play_isWon_3 : decode b_Play_isWon 3 = .ok (.aload_n 0, 1) := by decide +kernel
theorem d_Play_isWon_4 : decode b_Play_isWon 4 = .ok (.getfield 55, 3) := by decide +kernel
theorem d_Play_isWon_7 : decode b_Play_isWon 7 = .ok (.if_icmp .ge 24, 3) := by decide +kernel
theorem d_Play_isWon_10 : decode b_Play_isWon 10 = .ok (.aload_n 0, 1) := by decide +kernel
theorem d_Play_isWon_11 : decode b_Play_isWon 11 = .ok (.iload_n 2, 1) := by decide +kernel
theorem d_Play_isWon_12 : decode b_Play_isWon 12 = .ok (.iload_n 1, 1) := by decide +kernel
theorem d_Play_isWon_13 : decode b_Play_isWon 13 = .ok (.invokevirtual 90, 3) := by decide +kernel
theorem d_Play_isWon_16 : decode b_Play_isWon 16 = .ok (.aload_n 0, 1) := by decide +kernel
theorem d_Play_isWon_17 : decode b_Play_isWon 17 = .ok (.getfield 46, 3) := by decide +kernel
theorem d_Play_isWon_20 : decode b_Play_isWon 20 = .ok (.if_icmp .lt 5, 3) := by decide +kernel
theorem d_Play_isWon_23 : decode b_Play_isWon 23 = .ok (.iconst 1, 1) := by decide +kernel
theorem d_Play_isWon_24 : decode b_Play_isWon 24 = .ok (.ireturn, 1) := by decide +kernel
theorem d_Play_isWon_25 : decode b_Play_isWon 25 = .ok (.iinc 2 1, 3) := by decide +kernel
theorem d_Play_isWon_28 : decode b_Play_isWon 28 = .ok (.goto (-26), 3) := by decide +kernel
theorem d_Play_isWon_31 : decode b_Play_isWon 31 = .ok (.iconst 0, 1) := by decide +kernel
theorem d_Play_isWon_32 : decode b_Play_isWon 32 = .ok (.ireturn, 1) := by decide +kernel
theorem d_Main_image_0 : decode b_Main_image 0 = .ok (.iload_n 1, 1) := by decide +kernel
theorem d_Main_image_1 : decode b_Main_image 1 = .ok (.iconst 0, 1) := by decide +kernel
theorem d_Main_image_2 : decode b_Main_image 2 = .ok (.iconst 1, 1) := by decide +kernel
theorem d_Main_image_3 : decode b_Main_image 3 = .ok (.invokestatic 44, 3) := by decide +kernel
theorem d_Main_image_6 : decode b_Main_image 6 = .ok (.ifCond .ne 6, 3) := by decide +kernel
theorem d_Main_image_9 : decode b_Main_image 9 = .ok (.bipush (-2), 2) := by decide +kernel
theorem d_Main_image_11 : decode b_Main_image 11 = .ok (.ireturn, 1) := by decide +kernel
theorem d_Main_image_12 : decode b_Main_image 12 = .ok (.aload_n 0, 1) := by decide +kernel
theorem d_Main_image_13 : decode b_Main_image 13 = .ok (.iload_n 1, 1) := by decide +kernel
theorem d_Main_image_14 : decode b_Main_image 14 = .ok (.invokevirtual 217, 3) := by decide +kernel
theorem d_Main_image_17 : decode b_Main_image 17 = .ok (.astore_n 2, 1) := by decide +kernel
theorem d_Main_image_18 : decode b_Main_image 18 = .ok (.aload_n 2, 1) := by decide +kernel
theorem d_Main_image_19 : decode b_Main_image 19 = .ok (.getfield 221, 3) := by decide +kernel
theorem d_Main_image_22 : decode b_Main_image 22 = .ok (.aload_n 0, 1) := by decide +kernel
theorem d_Main_image_23 : decode b_Main_image 23 = .ok (.getfield 19, 3) := by decide +kernel
theorem d_Main_image_26 : decode b_Main_image 26 = .ok (.invokevirtual 222, 3) := by decide +kernel
theorem d_Main_image_29 : decode b_Main_image 29 = .ok (.aload_n 2, 1) := by decide +kernel
theorem d_Main_image_30 : decode b_Main_image 30 = .ok (.iconst 1, 1) := by decide +kernel
theorem d_Main_image_31 : decode b_Main_image 31 = .ok (.putfield 225, 3) := by decide +kernel
theorem d_Main_image_34 : decode b_Main_image 34 = .ok (.iconst 1, 1) := by decide +kernel
theorem d_Main_image_35 : decode b_Main_image 35 = .ok (.ireturn, 1) := by decide +kernel
theorem d_Main_pickImage_0 : decode b_Main_pickImage 0 = .ok (.iload_n 1, 1) := by decide +kernel
theorem d_Main_pickImage_1 : decode b_Main_pickImage 1 = .ok (.ifCond .ne 10, 3) := by decide +kernel
theorem d_Main_pickImage_4 : decode b_Main_pickImage 4 = .ok (.aload_n 0, 1) := by decide +kernel
theorem d_Main_pickImage_5 : decode b_Main_pickImage 5 = .ok (.getfield 33, 3) := by decide +kernel
theorem d_Main_pickImage_8 : decode b_Main_pickImage 8 = .ok (.goto 7, 3) := by decide +kernel
theorem d_Main_pickImage_11 : decode b_Main_pickImage 11 = .ok (.aload_n 0, 1) := by decide +kernel
theorem d_Main_pickImage_12 : decode b_Main_pickImage 12 = .ok (.getfield 37, 3) := by decide +kernel
theorem d_Main_pickImage_15 : decode b_Main_pickImage 15 = .ok (.areturn, 1) := by decide +kernel
theorem d_Play_copyFrom_0 : decode b_Play_copyFrom 0 = .ok (.aload_n 0, 1) := by decide +kernel
theorem d_Play_copyFrom_1 : decode b_Play_copyFrom 1 = .ok (.aload_n 1, 1) := by decide +kernel
theorem d_Play_copyFrom_2 : decode b_Play_copyFrom 2 = .ok (.getfield 36, 3) := by decide +kernel
theorem d_Play_copyFrom_5 : decode b_Play_copyFrom 5 = .ok (.putfield 36, 3) := by decide +kernel
theorem d_Play_copyFrom_8 : decode b_Play_copyFrom 8 = .ok (.aload_n 0, 1) := by decide +kernel
theorem d_Play_copyFrom_9 : decode b_Play_copyFrom 9 = .ok (.aload_n 1, 1) := by decide +kernel
theorem d_Play_copyFrom_10 : decode b_Play_copyFrom 10 = .ok (.getfield 40, 3) := by decide +kernel
theorem d_Play_copyFrom_13 : decode b_Play_copyFrom 13 = .ok (.putfield 40, 3) := by decide +kernel
theorem d_Play_copyFrom_16 : decode b_Play_copyFrom 16 = .ok (.aload_n 0, 1) := by decide +kernel
theorem d_Play_copyFrom_17 : decode b_Play_copyFrom 17 = .ok (.aload_n 1, 1) := by decide +kernel
theorem d_Play_copyFrom_18 : decode b_Play_copyFrom 18 = .ok (.getfield 43, 3) := by decide +kernel
theorem d_Play_copyFrom_21 : decode b_Play_copyFrom 21 = .ok (.putfield 43, 3) := by decide +kernel
theorem d_Play_copyFrom_24 : decode b_Play_copyFrom 24 = .ok (.aload_n 0, 1) := by decide +kernel
theorem d_Play_copyFrom_25 : decode b_Play_copyFrom 25 = .ok (.aload_n 1, 1) := by decide +kernel
theorem d_Play_copyFrom_26 : decode b_Play_copyFrom 26 = .ok (.getfield 46, 3) := by decide +kernel
theorem d_Play_copyFrom_29 : decode b_Play_copyFrom 29 = .ok (.putfield 46, 3) := by decide +kernel
theorem d_Play_copyFrom_32 : decode b_Play_copyFrom 32 = .ok (.aload_n 0, 1) := by decide +kernel
theorem d_Play_copyFrom_33 : decode b_Play_copyFrom 33 = .ok (.aload_n 1, 1) := by decide +kernel
theorem d_Play_copyFrom_34 : decode b_Play_copyFrom 34 = .ok (.getfield 49, 3) := by decide +kernel
theorem d_Play_copyFrom_37 : decode b_Play_copyFrom 37 = .ok (.putfield 49, 3) := by decide +kernel
theorem d_Play_copyFrom_40 : decode b_Play_copyFrom 40 = .ok (.aload_n 0, 1) := by decide +kernel
theorem d_Play_copyFrom_41 : decode b_Play_copyFrom 41 = .ok (.aload_n 1, 1) := by decide +kernel
theorem d_Play_copyFrom_42 : decode b_Play_copyFrom 42 = .ok (.getfield 55, 3) := by decide +kernel
theorem d_Play_copyFrom_45 : decode b_Play_copyFrom 45 = .ok (.putfield 55, 3) := by decide +kernel
theorem d_Play_copyFrom_48 : decode b_Play_copyFrom 48 = .ok (.aload_n 0, 1) := by decide +kernel
theorem d_Play_copyFrom_49 : decode b_Play_copyFrom 49 = .ok (.getfield 14, 3) := by decide +kernel
theorem d_Play_copyFrom_52 : decode b_Play_copyFrom 52 = .ok (.aload_n 1, 1) := by decide +kernel
theorem d_Play_copyFrom_53 : decode b_Play_copyFrom 53 = .ok (.getfield 14, 3) := by decide +kernel
theorem d_Play_copyFrom_56 : decode b_Play_copyFrom 56 = .ok (.invokevirtual 97, 3) := by decide +kernel
theorem d_Play_copyFrom_59 : decode b_Play_copyFrom 59 = .ok (.aload_n 0, 1) := by decide +kernel
theorem d_Play_copyFrom_60 : decode b_Play_copyFrom 60 = .ok (.getfield 20, 3) := by decide +kernel
theorem d_Play_copyFrom_63 : decode b_Play_copyFrom 63 = .ok (.aload_n 1, 1) := by decide +kernel
theorem d_Play_copyFrom_64 : decode b_Play_copyFrom 64 = .ok (.getfield 20, 3) := by decide +kernel
theorem d_Play_copyFrom_67 : decode b_Play_copyFrom 67 = .ok (.invokevirtual 97, 3) := by decide +kernel
theorem d_Play_copyFrom_70 : decode b_Play_copyFrom 70 = .ok (.aload_n 0, 1) := by decide +kernel
theorem d_Play_copyFrom_71 : decode b_Play_copyFrom 71 = .ok (.aload_n 1, 1) := by decide +kernel
theorem d_Play_copyFrom_72 : decode b_Play_copyFrom 72 = .ok (.getfield 58, 3) := by decide +kernel
theorem d_Play_copyFrom_75 : decode b_Play_copyFrom 75 = .ok (.putfield 58, 3) := by decide +kernel
theorem d_Play_copyFrom_78 : decode b_Play_copyFrom 78 = .ok (.aload_n 0, 1) := by decide +kernel
theorem d_Play_copyFrom_79 : decode b_Play_copyFrom 79 = .ok (.getfield 23, 3) := by decide +kernel
theorem d_Play_copyFrom_82 : decode b_Play_copyFrom 82 = .ok (.aload_n 1, 1) := by decide +kernel
theorem d_Play_copyFrom_83 : decode b_Play_copyFrom 83 = .ok (.getfield 23, 3) := by decide +kernel
theorem d_Play_copyFrom_86 : decode b_Play_copyFrom 86 = .ok (.invokevirtual 97, 3) := by decide +kernel
theorem d_Play_copyFrom_89 : decode b_Play_copyFrom 89 = .ok (.aload_n 0, 1) := by decide +kernel
theorem d_Play_copyFrom_90 : decode b_Play_copyFrom 90 = .ok (.getfield 26, 3) := by decide +kernel
theorem d_Play_copyFrom_93 : decode b_Play_copyFrom 93 = .ok (.aload_n 1, 1) := by decide +kernel
theorem d_Play_copyFrom_94 : decode b_Play_copyFrom 94 = .ok (.getfield 26, 3) := by decide +kernel
theorem d_Play_copyFrom_97 : decode b_Play_copyFrom 97 = .ok (.invokevirtual 97, 3) := by decide +kernel
theorem d_Play_copyFrom_100 : decode b_Play_copyFrom 100 = .ok (.aload_n 0, 1) := by decide +kernel
theorem d_Play_copyFrom_101 : decode b_Play_copyFrom 101 = .ok (.getfield 29, 3) := by decide +kernel
theorem d_Play_copyFrom_104 : decode b_Play_copyFrom 104 = .ok (.aload_n 1, 1) := by decide +kernel
theorem d_Play_copyFrom_105 : decode b_Play_copyFrom 105 = .ok (.getfield 29, 3) := by decide +kernel
theorem d_Play_copyFrom_108 : decode b_Play_copyFrom 108 = .ok (.invokevirtual 97, 3) := by decide +kernel
theorem d_Play_copyFrom_111 : decode b_Play_copyFrom 111 = .ok (.return_, 1) := by decide +kernel
theorem d_Main_restore_0 : decode b_Main_restore 0 = .ok (.iload_n 1, 1) := by decide +kernel
theorem d_Main_restore_1 : decode b_Main_restore 1 = .ok (.iconst 0, 1) := by decide +kernel
theorem d_Main_restore_2 : decode b_Main_restore 2 = .ok (.iconst 1, 1) := by decide +kernel
theorem d_Main_restore_3 : decode b_Main_restore 3 = .ok (.invokestatic 44, 3) := by decide +kernel
theorem d_Main_restore_6 : decode b_Main_restore 6 = .ok (.ifCond .ne 6, 3) := by decide +kernel
theorem d_Main_restore_9 : decode b_Main_restore 9 = .ok (.bipush (-2), 2) := by decide +kernel
theorem d_Main_restore_11 : decode b_Main_restore 11 = .ok (.ireturn, 1) := by decide +kernel
theorem d_Main_restore_12 : decode b_Main_restore 12 = .ok (.aload_n 0, 1) := by decide +kernel
theorem d_Main_restore_13 : decode b_Main_restore 13 = .ok (.iload_n 1, 1) := by decide +kernel
theorem d_Main_restore_14 : decode b_Main_restore 14 = .ok (.invokevirtual 217, 3) := by decide +kernel
theorem d_Main_restore_17 : decode b_Main_restore 17 = .ok (.astore_n 2, 1) := by decide +kernel
theorem d_Main_restore_18 : decode b_Main_restore 18 = .ok (.aload_n 2, 1) := by decide +kernel
theorem d_Main_restore_19 : decode b_Main_restore 19 = .ok (.getfield 225, 3) := by decide +kernel
theorem d_Main_restore_22 : decode b_Main_restore 22 = .ok (.ifCond .ne 6, 3) := by decide +kernel
theorem d_Main_restore_25 : decode b_Main_restore 25 = .ok (.bipush (-3), 2) := by decide +kernel
theorem d_Main_restore_27 : decode b_Main_restore 27 = .ok (.ireturn, 1) := by decide +kernel
theorem d_Main_restore_28 : decode b_Main_restore 28 = .ok (.aload_n 0, 1) := by decide +kernel
theorem d_Main_restore_29 : decode b_Main_restore 29 = .ok (.getfield 19, 3) := by decide +kernel
theorem d_Main_restore_32 : decode b_Main_restore 32 = .ok (.aload_n 2, 1) := by decide +kernel
theorem d_Main_restore_33 : decode b_Main_restore 33 = .ok (.getfield 221, 3) := by decide +kernel
theorem d_Main_restore_36 : decode b_Main_restore 36 = .ok (.invokevirtual 222, 3) := by decide +kernel
theorem d_Main_restore_39 : decode b_Main_restore 39 = .ok (.aload_n 0, 1) := by decide +kernel
theorem d_Main_restore_40 : decode b_Main_restore 40 = .ok (.getfield 26, 3) := by decide +kernel
theorem d_Main_restore_43 : decode b_Main_restore 43 = .ok (.aload_n 0, 1) := by decide +kernel
theorem d_Main_restore_44 : decode b_Main_restore 44 = .ok (.getfield 19, 3) := by decide +kernel
theorem d_Main_restore_47 : decode b_Main_restore 47 = .ok (.invokevirtual 40, 3) := by decide +kernel
theorem d_Main_restore_50 : decode b_Main_restore 50 = .ok (.aload_n 0, 1) := by decide +kernel
theorem d_Main_restore_51 : decode b_Main_restore 51 = .ok (.getfield 26, 3) := by decide +kernel
theorem d_Main_restore_54 : decode b_Main_restore 54 = .ok (.aload_n 0, 1) := by decide +kernel
theorem d_Main_restore_55 : decode b_Main_restore 55 = .ok (.getfield 19, 3) := by decide +kernel
theorem d_Main_restore_58 : decode b_Main_restore 58 = .ok (.invokevirtual 58, 3) := by decide +kernel
theorem d_Main_restore_61 : decode b_Main_restore 61 = .ok (.iconst 1, 1) := by decide +kernel
theorem d_Main_restore_62 : decode b_Main_restore 62 = .ok (.ireturn, 1) := by decide +kernel
theorem d_Main_told_0 : decode b_Main_told 0 = .ok (.iload_n 1, 1) := by decide +kernel
theorem d_Main_told_1 : decode b_Main_told 1 = .ok (.bipush 10, 2) := by decide +kernel
theorem d_Main_told_3 : decode b_Main_told 3 = .ok (.bipush 18, 2) := by decide +kernel
theorem d_Main_told_5 : decode b_Main_told 5 = .ok (.invokestatic 44, 3) := by decide +kernel
theorem d_Main_told_8 : decode b_Main_told 8 = .ok (.ifCond .eq 18, 3) := by decide +kernel
theorem d_Main_told_11 : decode b_Main_told 11 = .ok (.aload_n 0, 1) := by decide +kernel
theorem d_Main_told_12 : decode b_Main_told 12 = .ok (.getfield 19, 3) := by decide +kernel
theorem d_Main_told_15 : decode b_Main_told 15 = .ok (.getfield 145, 3) := by decide +kernel
theorem d_Main_told_18 : decode b_Main_told 18 = .ok (.iload_n 1, 1) := by decide +kernel
theorem d_Main_told_19 : decode b_Main_told 19 = .ok (.bipush 10, 2) := by decide +kernel
theorem d_Main_told_21 : decode b_Main_told 21 = .ok (.isub, 1) := by decide +kernel
theorem d_Main_told_22 : decode b_Main_told 22 = .ok (.invokevirtual 103, 3) := by decide +kernel
theorem d_Main_told_25 : decode b_Main_told 25 = .ok (.ireturn, 1) := by decide +kernel
theorem d_Main_told_26 : decode b_Main_told 26 = .ok (.iload_n 1, 1) := by decide +kernel
theorem d_Main_told_27 : decode b_Main_told 27 = .ok (.tableswitch 109 0 7 #[45, 53, 61, 69, 77, 85, 93, 101], 45) := by decide +kernel
theorem d_Main_told_72 : decode b_Main_told 72 = .ok (.aload_n 0, 1) := by decide +kernel
theorem d_Main_told_73 : decode b_Main_told 73 = .ok (.getfield 10, 3) := by decide +kernel
theorem d_Main_told_76 : decode b_Main_told 76 = .ok (.invokevirtual 71, 3) := by decide +kernel
theorem d_Main_told_79 : decode b_Main_told 79 = .ok (.ireturn, 1) := by decide +kernel
theorem d_Main_told_80 : decode b_Main_told 80 = .ok (.aload_n 0, 1) := by decide +kernel
theorem d_Main_told_81 : decode b_Main_told 81 = .ok (.getfield 19, 3) := by decide +kernel
theorem d_Main_told_84 : decode b_Main_told 84 = .ok (.getfield 79, 3) := by decide +kernel
theorem d_Main_told_87 : decode b_Main_told 87 = .ok (.ireturn, 1) := by decide +kernel
theorem d_Main_told_88 : decode b_Main_told 88 = .ok (.aload_n 0, 1) := by decide +kernel
theorem d_Main_told_89 : decode b_Main_told 89 = .ok (.getfield 19, 3) := by decide +kernel
theorem d_Main_told_92 : decode b_Main_told 92 = .ok (.getfield 83, 3) := by decide +kernel
theorem d_Main_told_95 : decode b_Main_told 95 = .ok (.ireturn, 1) := by decide +kernel
theorem d_Main_told_96 : decode b_Main_told 96 = .ok (.aload_n 0, 1) := by decide +kernel
theorem d_Main_told_97 : decode b_Main_told 97 = .ok (.getfield 19, 3) := by decide +kernel
theorem d_Main_told_100 : decode b_Main_told 100 = .ok (.getfield 229, 3) := by decide +kernel
theorem d_Main_told_103 : decode b_Main_told 103 = .ok (.ireturn, 1) := by decide +kernel
theorem d_Main_told_104 : decode b_Main_told 104 = .ok (.aload_n 0, 1) := by decide +kernel
theorem d_Main_told_105 : decode b_Main_told 105 = .ok (.getfield 19, 3) := by decide +kernel
theorem d_Main_told_108 : decode b_Main_told 108 = .ok (.getfield 232, 3) := by decide +kernel
theorem d_Main_told_111 : decode b_Main_told 111 = .ok (.ireturn, 1) := by decide +kernel
theorem d_Main_told_112 : decode b_Main_told 112 = .ok (.aload_n 0, 1) := by decide +kernel
theorem d_Main_told_113 : decode b_Main_told 113 = .ok (.getfield 19, 3) := by decide +kernel
theorem d_Main_told_116 : decode b_Main_told 116 = .ok (.getfield 92, 3) := by decide +kernel
theorem d_Main_told_119 : decode b_Main_told 119 = .ok (.ireturn, 1) := by decide +kernel
theorem d_Main_told_120 : decode b_Main_told 120 = .ok (.aload_n 0, 1) := by decide +kernel
theorem d_Main_told_121 : decode b_Main_told 121 = .ok (.getfield 19, 3) := by decide +kernel
theorem d_Main_told_124 : decode b_Main_told 124 = .ok (.getfield 117, 3) := by decide +kernel
theorem d_Main_told_127 : decode b_Main_told 127 = .ok (.ireturn, 1) := by decide +kernel
theorem d_Main_told_128 : decode b_Main_told 128 = .ok (.aload_n 0, 1) := by decide +kernel
theorem d_Main_told_129 : decode b_Main_told 129 = .ok (.getfield 19, 3) := by decide +kernel
theorem d_Main_told_132 : decode b_Main_told 132 = .ok (.getfield 196, 3) := by decide +kernel
theorem d_Main_told_135 : decode b_Main_told 135 = .ok (.ireturn, 1) := by decide +kernel
theorem d_Main_told_136 : decode b_Main_told 136 = .ok (.bipush (-2), 2) := by decide +kernel
theorem d_Main_told_138 : decode b_Main_told 138 = .ok (.ireturn, 1) := by decide +kernel
