/-! ===== printed by wip/whole/links.py: each instruction, decoded ===== -/
theorem D_M_init_0 : decode m_M_init.2.1 0 = .ok (.aload_n 0, 1) := by decide +kernel
theorem D_M_init_1 : decode m_M_init.2.1 1 = .ok (.invokespecial 1, 3) := by decide +kernel
theorem D_M_init_4 : decode m_M_init.2.1 4 = .ok (.aload_n 0, 1) := by decide +kernel
theorem D_M_init_5 : decode m_M_init.2.1 5 = .ok (.bipush 39, 2) := by decide +kernel
theorem D_M_init_7 : decode m_M_init.2.1 7 = .ok (.newarray .int, 2) := by decide +kernel
theorem D_M_init_9 : decode m_M_init.2.1 9 = .ok (.putfield 7, 3) := by decide +kernel
theorem D_M_init_12 : decode m_M_init.2.1 12 = .ok (.aload_n 0, 1) := by decide +kernel
theorem D_M_init_13 : decode m_M_init.2.1 13 = .ok (.sipush 234, 3) := by decide +kernel
theorem D_M_init_16 : decode m_M_init.2.1 16 = .ok (.newarray .int, 2) := by decide +kernel
theorem D_M_init_18 : decode m_M_init.2.1 18 = .ok (.putfield 13, 3) := by decide +kernel
theorem D_M_init_21 : decode m_M_init.2.1 21 = .ok (.aload_n 0, 1) := by decide +kernel
theorem D_M_init_22 : decode m_M_init.2.1 22 = .ok (.bipush 78, 2) := by decide +kernel
theorem D_M_init_24 : decode m_M_init.2.1 24 = .ok (.newarray .int, 2) := by decide +kernel
theorem D_M_init_26 : decode m_M_init.2.1 26 = .ok (.putfield 16, 3) := by decide +kernel
theorem D_M_init_29 : decode m_M_init.2.1 29 = .ok (.aload_n 0, 1) := by decide +kernel
theorem D_M_init_30 : decode m_M_init.2.1 30 = .ok (.iconst 2, 1) := by decide +kernel
theorem D_M_init_31 : decode m_M_init.2.1 31 = .ok (.newarray .boolean, 2) := by decide +kernel
theorem D_M_init_33 : decode m_M_init.2.1 33 = .ok (.putfield 19, 3) := by decide +kernel
theorem D_M_init_36 : decode m_M_init.2.1 36 = .ok (.aload_n 0, 1) := by decide +kernel
theorem D_M_init_37 : decode m_M_init.2.1 37 = .ok (.bipush 50, 2) := by decide +kernel
theorem D_M_init_39 : decode m_M_init.2.1 39 = .ok (.newarray .char, 2) := by decide +kernel
theorem D_M_init_41 : decode m_M_init.2.1 41 = .ok (.putfield 23, 3) := by decide +kernel
theorem D_M_init_44 : decode m_M_init.2.1 44 = .ok (.aload_n 0, 1) := by decide +kernel
theorem D_M_init_45 : decode m_M_init.2.1 45 = .ok (.bipush 6, 2) := by decide +kernel
theorem D_M_init_47 : decode m_M_init.2.1 47 = .ok (.newarray .int, 2) := by decide +kernel
theorem D_M_init_49 : decode m_M_init.2.1 49 = .ok (.putfield 27, 3) := by decide +kernel
theorem D_M_init_52 : decode m_M_init.2.1 52 = .ok (.aload_n 0, 1) := by decide +kernel
theorem D_M_init_53 : decode m_M_init.2.1 53 = .ok (.bipush 6, 2) := by decide +kernel
theorem D_M_init_55 : decode m_M_init.2.1 55 = .ok (.newarray .int, 2) := by decide +kernel
theorem D_M_init_57 : decode m_M_init.2.1 57 = .ok (.putfield 30, 3) := by decide +kernel
theorem D_M_init_60 : decode m_M_init.2.1 60 = .ok (.aload_n 0, 1) := by decide +kernel
theorem D_M_init_61 : decode m_M_init.2.1 61 = .ok (.bipush 6, 2) := by decide +kernel
theorem D_M_init_63 : decode m_M_init.2.1 63 = .ok (.newarray .int, 2) := by decide +kernel
theorem D_M_init_65 : decode m_M_init.2.1 65 = .ok (.putfield 33, 3) := by decide +kernel
theorem D_M_init_68 : decode m_M_init.2.1 68 = .ok (.aload_n 0, 1) := by decide +kernel
theorem D_M_init_69 : decode m_M_init.2.1 69 = .ok (.bipush 6, 2) := by decide +kernel
theorem D_M_init_71 : decode m_M_init.2.1 71 = .ok (.newarray .int, 2) := by decide +kernel
theorem D_M_init_73 : decode m_M_init.2.1 73 = .ok (.putfield 36, 3) := by decide +kernel
theorem D_M_init_76 : decode m_M_init.2.1 76 = .ok (.aload_n 0, 1) := by decide +kernel
theorem D_M_init_77 : decode m_M_init.2.1 77 = .ok (.bipush 36, 2) := by decide +kernel
theorem D_M_init_79 : decode m_M_init.2.1 79 = .ok (.newarray .int, 2) := by decide +kernel
theorem D_M_init_81 : decode m_M_init.2.1 81 = .ok (.putfield 39, 3) := by decide +kernel
theorem D_M_init_84 : decode m_M_init.2.1 84 = .ok (.aload_n 0, 1) := by decide +kernel
theorem D_M_init_85 : decode m_M_init.2.1 85 = .ok (.bipush 12, 2) := by decide +kernel
theorem D_M_init_87 : decode m_M_init.2.1 87 = .ok (.newarray .int, 2) := by decide +kernel
theorem D_M_init_89 : decode m_M_init.2.1 89 = .ok (.putfield 42, 3) := by decide +kernel
theorem D_M_init_92 : decode m_M_init.2.1 92 = .ok (.aload_n 0, 1) := by decide +kernel
theorem D_M_init_93 : decode m_M_init.2.1 93 = .ok (.bipush 36, 2) := by decide +kernel
theorem D_M_init_95 : decode m_M_init.2.1 95 = .ok (.newarray .int, 2) := by decide +kernel
theorem D_M_init_97 : decode m_M_init.2.1 97 = .ok (.putfield 45, 3) := by decide +kernel
theorem D_M_init_100 : decode m_M_init.2.1 100 = .ok (.aload_n 0, 1) := by decide +kernel
theorem D_M_init_101 : decode m_M_init.2.1 101 = .ok (.getfield 7, 3) := by decide +kernel
theorem D_M_init_104 : decode m_M_init.2.1 104 = .ok (.bipush 36, 2) := by decide +kernel
theorem D_M_init_106 : decode m_M_init.2.1 106 = .ok (.iconst 3, 1) := by decide +kernel
theorem D_M_init_107 : decode m_M_init.2.1 107 = .ok (.iastore, 1) := by decide +kernel
theorem D_M_init_108 : decode m_M_init.2.1 108 = .ok (.aload_n 0, 1) := by decide +kernel
theorem D_M_init_109 : decode m_M_init.2.1 109 = .ok (.getfield 7, 3) := by decide +kernel
theorem D_M_init_112 : decode m_M_init.2.1 112 = .ok (.bipush 37, 2) := by decide +kernel
theorem D_M_init_114 : decode m_M_init.2.1 114 = .ok (.iconst 3, 1) := by decide +kernel
theorem D_M_init_115 : decode m_M_init.2.1 115 = .ok (.iastore, 1) := by decide +kernel
theorem D_M_init_116 : decode m_M_init.2.1 116 = .ok (.aload_n 0, 1) := by decide +kernel
theorem D_M_init_117 : decode m_M_init.2.1 117 = .ok (.getfield 7, 3) := by decide +kernel
theorem D_M_init_120 : decode m_M_init.2.1 120 = .ok (.bipush 38, 2) := by decide +kernel
theorem D_M_init_122 : decode m_M_init.2.1 122 = .ok (.bipush 7, 2) := by decide +kernel
theorem D_M_init_124 : decode m_M_init.2.1 124 = .ok (.iastore, 1) := by decide +kernel
theorem D_M_init_125 : decode m_M_init.2.1 125 = .ok (.return_, 1) := by decide +kernel
theorem D_M_in_0 : decode m_M_in.2.1 0 = .ok (.iload_n 0, 1) := by decide +kernel
theorem D_M_in_1 : decode m_M_in.2.1 1 = .ok (.iload_n 1, 1) := by decide +kernel
theorem D_M_in_2 : decode m_M_in.2.1 2 = .ok (.if_icmp .lt 12, 3) := by decide +kernel
theorem D_M_in_5 : decode m_M_in.2.1 5 = .ok (.iload_n 0, 1) := by decide +kernel
theorem D_M_in_6 : decode m_M_in.2.1 6 = .ok (.iload_n 2, 1) := by decide +kernel
theorem D_M_in_7 : decode m_M_in.2.1 7 = .ok (.if_icmp .gt 7, 3) := by decide +kernel
theorem D_M_in_10 : decode m_M_in.2.1 10 = .ok (.iconst 1, 1) := by decide +kernel
theorem D_M_in_11 : decode m_M_in.2.1 11 = .ok (.goto 4, 3) := by decide +kernel
theorem D_M_in_14 : decode m_M_in.2.1 14 = .ok (.iconst 0, 1) := by decide +kernel
theorem D_M_in_15 : decode m_M_in.2.1 15 = .ok (.ireturn, 1) := by decide +kernel
theorem D_M_isEntry_0 : decode m_M_isEntry.2.1 0 = .ok (.iload_n 1, 1) := by decide +kernel
theorem D_M_isEntry_1 : decode m_M_isEntry.2.1 1 = .ok (.ifCond .lt 33, 3) := by decide +kernel
theorem D_M_isEntry_4 : decode m_M_isEntry.2.1 4 = .ok (.iload_n 1, 1) := by decide +kernel
theorem D_M_isEntry_5 : decode m_M_isEntry.2.1 5 = .ok (.aload_n 0, 1) := by decide +kernel
theorem D_M_isEntry_6 : decode m_M_isEntry.2.1 6 = .ok (.getfield 7, 3) := by decide +kernel
theorem D_M_isEntry_9 : decode m_M_isEntry.2.1 9 = .ok (.bipush 36, 2) := by decide +kernel
theorem D_M_isEntry_11 : decode m_M_isEntry.2.1 11 = .ok (.iaload, 1) := by decide +kernel
theorem D_M_isEntry_12 : decode m_M_isEntry.2.1 12 = .ok (.if_icmp .ge 22, 3) := by decide +kernel
theorem D_M_isEntry_15 : decode m_M_isEntry.2.1 15 = .ok (.iload_n 2, 1) := by decide +kernel
theorem D_M_isEntry_16 : decode m_M_isEntry.2.1 16 = .ok (.ifCond .lt 18, 3) := by decide +kernel
theorem D_M_isEntry_19 : decode m_M_isEntry.2.1 19 = .ok (.iload_n 2, 1) := by decide +kernel
theorem D_M_isEntry_20 : decode m_M_isEntry.2.1 20 = .ok (.aload_n 0, 1) := by decide +kernel
theorem D_M_isEntry_21 : decode m_M_isEntry.2.1 21 = .ok (.getfield 7, 3) := by decide +kernel
theorem D_M_isEntry_24 : decode m_M_isEntry.2.1 24 = .ok (.bipush 37, 2) := by decide +kernel
theorem D_M_isEntry_26 : decode m_M_isEntry.2.1 26 = .ok (.iaload, 1) := by decide +kernel
theorem D_M_isEntry_27 : decode m_M_isEntry.2.1 27 = .ok (.if_icmp .ge 7, 3) := by decide +kernel
theorem D_M_isEntry_30 : decode m_M_isEntry.2.1 30 = .ok (.iconst 1, 1) := by decide +kernel
theorem D_M_isEntry_31 : decode m_M_isEntry.2.1 31 = .ok (.goto 4, 3) := by decide +kernel
theorem D_M_isEntry_34 : decode m_M_isEntry.2.1 34 = .ok (.iconst 0, 1) := by decide +kernel
theorem D_M_isEntry_35 : decode m_M_isEntry.2.1 35 = .ok (.ireturn, 1) := by decide +kernel
theorem D_M_record_0 : decode m_M_record.2.1 0 = .ok (.aload_n 0, 1) := by decide +kernel
theorem D_M_record_1 : decode m_M_record.2.1 1 = .ok (.getfield 48, 3) := by decide +kernel
theorem D_M_record_4 : decode m_M_record.2.1 4 = .ok (.bipush 6, 2) := by decide +kernel
theorem D_M_record_6 : decode m_M_record.2.1 6 = .ok (.if_icmp .ne 43, 3) := by decide +kernel
theorem D_M_record_9 : decode m_M_record.2.1 9 = .ok (.iconst 0, 1) := by decide +kernel
theorem D_M_record_10 : decode m_M_record.2.1 10 = .ok (.istore_n 1, 1) := by decide +kernel
theorem D_M_record_11 : decode m_M_record.2.1 11 = .ok (.iload_n 1, 1) := by decide +kernel
theorem D_M_record_12 : decode m_M_record.2.1 12 = .ok (.sipush 195, 3) := by decide +kernel
theorem D_M_record_15 : decode m_M_record.2.1 15 = .ok (.if_icmp .ge 24, 3) := by decide +kernel
theorem D_M_record_18 : decode m_M_record.2.1 18 = .ok (.aload_n 0, 1) := by decide +kernel
theorem D_M_record_19 : decode m_M_record.2.1 19 = .ok (.getfield 13, 3) := by decide +kernel
theorem D_M_record_22 : decode m_M_record.2.1 22 = .ok (.iload_n 1, 1) := by decide +kernel
theorem D_M_record_23 : decode m_M_record.2.1 23 = .ok (.aload_n 0, 1) := by decide +kernel
theorem D_M_record_24 : decode m_M_record.2.1 24 = .ok (.getfield 13, 3) := by decide +kernel
theorem D_M_record_27 : decode m_M_record.2.1 27 = .ok (.iload_n 1, 1) := by decide +kernel
theorem D_M_record_28 : decode m_M_record.2.1 28 = .ok (.bipush 39, 2) := by decide +kernel
theorem D_M_record_30 : decode m_M_record.2.1 30 = .ok (.iadd, 1) := by decide +kernel
theorem D_M_record_31 : decode m_M_record.2.1 31 = .ok (.iaload, 1) := by decide +kernel
theorem D_M_record_32 : decode m_M_record.2.1 32 = .ok (.iastore, 1) := by decide +kernel
theorem D_M_record_33 : decode m_M_record.2.1 33 = .ok (.iinc 1 1, 3) := by decide +kernel
theorem D_M_record_36 : decode m_M_record.2.1 36 = .ok (.goto (-25), 3) := by decide +kernel
theorem D_M_record_39 : decode m_M_record.2.1 39 = .ok (.aload_n 0, 1) := by decide +kernel
theorem D_M_record_40 : decode m_M_record.2.1 40 = .ok (.dup, 1) := by decide +kernel
theorem D_M_record_41 : decode m_M_record.2.1 41 = .ok (.getfield 48, 3) := by decide +kernel
theorem D_M_record_44 : decode m_M_record.2.1 44 = .ok (.iconst 1, 1) := by decide +kernel
theorem D_M_record_45 : decode m_M_record.2.1 45 = .ok (.isub, 1) := by decide +kernel
theorem D_M_record_46 : decode m_M_record.2.1 46 = .ok (.putfield 48, 3) := by decide +kernel
theorem D_M_record_49 : decode m_M_record.2.1 49 = .ok (.iconst 0, 1) := by decide +kernel
theorem D_M_record_50 : decode m_M_record.2.1 50 = .ok (.istore_n 1, 1) := by decide +kernel
theorem D_M_record_51 : decode m_M_record.2.1 51 = .ok (.iload_n 1, 1) := by decide +kernel
theorem D_M_record_52 : decode m_M_record.2.1 52 = .ok (.bipush 39, 2) := by decide +kernel
theorem D_M_record_54 : decode m_M_record.2.1 54 = .ok (.if_icmp .ge 29, 3) := by decide +kernel
theorem D_M_record_57 : decode m_M_record.2.1 57 = .ok (.aload_n 0, 1) := by decide +kernel
theorem D_M_record_58 : decode m_M_record.2.1 58 = .ok (.getfield 13, 3) := by decide +kernel
theorem D_M_record_61 : decode m_M_record.2.1 61 = .ok (.aload_n 0, 1) := by decide +kernel
theorem D_M_record_62 : decode m_M_record.2.1 62 = .ok (.getfield 48, 3) := by decide +kernel
theorem D_M_record_65 : decode m_M_record.2.1 65 = .ok (.bipush 39, 2) := by decide +kernel
theorem D_M_record_67 : decode m_M_record.2.1 67 = .ok (.imul, 1) := by decide +kernel
theorem D_M_record_68 : decode m_M_record.2.1 68 = .ok (.iload_n 1, 1) := by decide +kernel
theorem D_M_record_69 : decode m_M_record.2.1 69 = .ok (.iadd, 1) := by decide +kernel
theorem D_M_record_70 : decode m_M_record.2.1 70 = .ok (.aload_n 0, 1) := by decide +kernel
theorem D_M_record_71 : decode m_M_record.2.1 71 = .ok (.getfield 7, 3) := by decide +kernel
theorem D_M_record_74 : decode m_M_record.2.1 74 = .ok (.iload_n 1, 1) := by decide +kernel
theorem D_M_record_75 : decode m_M_record.2.1 75 = .ok (.iaload, 1) := by decide +kernel
theorem D_M_record_76 : decode m_M_record.2.1 76 = .ok (.iastore, 1) := by decide +kernel
theorem D_M_record_77 : decode m_M_record.2.1 77 = .ok (.iinc 1 1, 3) := by decide +kernel
theorem D_M_record_80 : decode m_M_record.2.1 80 = .ok (.goto (-29), 3) := by decide +kernel
theorem D_M_record_83 : decode m_M_record.2.1 83 = .ok (.aload_n 0, 1) := by decide +kernel
theorem D_M_record_84 : decode m_M_record.2.1 84 = .ok (.dup, 1) := by decide +kernel
theorem D_M_record_85 : decode m_M_record.2.1 85 = .ok (.getfield 48, 3) := by decide +kernel
theorem D_M_record_88 : decode m_M_record.2.1 88 = .ok (.iconst 1, 1) := by decide +kernel
theorem D_M_record_89 : decode m_M_record.2.1 89 = .ok (.iadd, 1) := by decide +kernel
theorem D_M_record_90 : decode m_M_record.2.1 90 = .ok (.putfield 48, 3) := by decide +kernel
theorem D_M_record_93 : decode m_M_record.2.1 93 = .ok (.return_, 1) := by decide +kernel
theorem D_M_undo_0 : decode m_M_undo.2.1 0 = .ok (.aload_n 0, 1) := by decide +kernel
theorem D_M_undo_1 : decode m_M_undo.2.1 1 = .ok (.getfield 48, 3) := by decide +kernel
theorem D_M_undo_4 : decode m_M_undo.2.1 4 = .ok (.ifCond .ne 6, 3) := by decide +kernel
theorem D_M_undo_7 : decode m_M_undo.2.1 7 = .ok (.bipush (-5), 2) := by decide +kernel
theorem D_M_undo_9 : decode m_M_undo.2.1 9 = .ok (.ireturn, 1) := by decide +kernel
theorem D_M_undo_10 : decode m_M_undo.2.1 10 = .ok (.aload_n 0, 1) := by decide +kernel
theorem D_M_undo_11 : decode m_M_undo.2.1 11 = .ok (.dup, 1) := by decide +kernel
theorem D_M_undo_12 : decode m_M_undo.2.1 12 = .ok (.getfield 48, 3) := by decide +kernel
theorem D_M_undo_15 : decode m_M_undo.2.1 15 = .ok (.iconst 1, 1) := by decide +kernel
theorem D_M_undo_16 : decode m_M_undo.2.1 16 = .ok (.isub, 1) := by decide +kernel
theorem D_M_undo_17 : decode m_M_undo.2.1 17 = .ok (.putfield 48, 3) := by decide +kernel
theorem D_M_undo_20 : decode m_M_undo.2.1 20 = .ok (.iconst 0, 1) := by decide +kernel
theorem D_M_undo_21 : decode m_M_undo.2.1 21 = .ok (.istore_n 1, 1) := by decide +kernel
theorem D_M_undo_22 : decode m_M_undo.2.1 22 = .ok (.iload_n 1, 1) := by decide +kernel
theorem D_M_undo_23 : decode m_M_undo.2.1 23 = .ok (.bipush 39, 2) := by decide +kernel
theorem D_M_undo_25 : decode m_M_undo.2.1 25 = .ok (.if_icmp .ge 29, 3) := by decide +kernel
theorem D_M_undo_28 : decode m_M_undo.2.1 28 = .ok (.aload_n 0, 1) := by decide +kernel
theorem D_M_undo_29 : decode m_M_undo.2.1 29 = .ok (.getfield 7, 3) := by decide +kernel
theorem D_M_undo_32 : decode m_M_undo.2.1 32 = .ok (.iload_n 1, 1) := by decide +kernel
theorem D_M_undo_33 : decode m_M_undo.2.1 33 = .ok (.aload_n 0, 1) := by decide +kernel
theorem D_M_undo_34 : decode m_M_undo.2.1 34 = .ok (.getfield 13, 3) := by decide +kernel
theorem D_M_undo_37 : decode m_M_undo.2.1 37 = .ok (.aload_n 0, 1) := by decide +kernel
theorem D_M_undo_38 : decode m_M_undo.2.1 38 = .ok (.getfield 48, 3) := by decide +kernel
theorem D_M_undo_41 : decode m_M_undo.2.1 41 = .ok (.bipush 39, 2) := by decide +kernel
theorem D_M_undo_43 : decode m_M_undo.2.1 43 = .ok (.imul, 1) := by decide +kernel
theorem D_M_undo_44 : decode m_M_undo.2.1 44 = .ok (.iload_n 1, 1) := by decide +kernel
theorem D_M_undo_45 : decode m_M_undo.2.1 45 = .ok (.iadd, 1) := by decide +kernel
theorem D_M_undo_46 : decode m_M_undo.2.1 46 = .ok (.iaload, 1) := by decide +kernel
theorem D_M_undo_47 : decode m_M_undo.2.1 47 = .ok (.iastore, 1) := by decide +kernel
theorem D_M_undo_48 : decode m_M_undo.2.1 48 = .ok (.iinc 1 1, 3) := by decide +kernel
theorem D_M_undo_51 : decode m_M_undo.2.1 51 = .ok (.goto (-29), 3) := by decide +kernel
theorem D_M_undo_54 : decode m_M_undo.2.1 54 = .ok (.aload_n 0, 1) := by decide +kernel
theorem D_M_undo_55 : decode m_M_undo.2.1 55 = .ok (.getfield 48, 3) := by decide +kernel
theorem D_M_undo_58 : decode m_M_undo.2.1 58 = .ok (.ireturn, 1) := by decide +kernel
theorem D_M_toldMany_0 : decode m_M_toldMany.2.1 0 = .ok (.iconst 0, 1) := by decide +kernel
theorem D_M_toldMany_1 : decode m_M_toldMany.2.1 1 = .ok (.istore_n 1, 1) := by decide +kernel
theorem D_M_toldMany_2 : decode m_M_toldMany.2.1 2 = .ok (.iconst 0, 1) := by decide +kernel
theorem D_M_toldMany_3 : decode m_M_toldMany.2.1 3 = .ok (.istore_n 2, 1) := by decide +kernel
theorem D_M_toldMany_4 : decode m_M_toldMany.2.1 4 = .ok (.iload_n 2, 1) := by decide +kernel
theorem D_M_toldMany_5 : decode m_M_toldMany.2.1 5 = .ok (.bipush 36, 2) := by decide +kernel
theorem D_M_toldMany_7 : decode m_M_toldMany.2.1 7 = .ok (.if_icmp .ge 26, 3) := by decide +kernel
theorem D_M_toldMany_10 : decode m_M_toldMany.2.1 10 = .ok (.iload_n 1, 1) := by decide +kernel
theorem D_M_toldMany_11 : decode m_M_toldMany.2.1 11 = .ok (.aload_n 0, 1) := by decide +kernel
theorem D_M_toldMany_12 : decode m_M_toldMany.2.1 12 = .ok (.getfield 7, 3) := by decide +kernel
theorem D_M_toldMany_15 : decode m_M_toldMany.2.1 15 = .ok (.iload_n 2, 1) := by decide +kernel
theorem D_M_toldMany_16 : decode m_M_toldMany.2.1 16 = .ok (.iaload, 1) := by decide +kernel
theorem D_M_toldMany_17 : decode m_M_toldMany.2.1 17 = .ok (.ifCond .le 7, 3) := by decide +kernel
theorem D_M_toldMany_20 : decode m_M_toldMany.2.1 20 = .ok (.iconst 1, 1) := by decide +kernel
theorem D_M_toldMany_21 : decode m_M_toldMany.2.1 21 = .ok (.goto 4, 3) := by decide +kernel
theorem D_M_toldMany_24 : decode m_M_toldMany.2.1 24 = .ok (.iconst 0, 1) := by decide +kernel
theorem D_M_toldMany_25 : decode m_M_toldMany.2.1 25 = .ok (.iadd, 1) := by decide +kernel
theorem D_M_toldMany_26 : decode m_M_toldMany.2.1 26 = .ok (.istore_n 1, 1) := by decide +kernel
theorem D_M_toldMany_27 : decode m_M_toldMany.2.1 27 = .ok (.iinc 2 1, 3) := by decide +kernel
theorem D_M_toldMany_30 : decode m_M_toldMany.2.1 30 = .ok (.goto (-26), 3) := by decide +kernel
theorem D_M_toldMany_33 : decode m_M_toldMany.2.1 33 = .ok (.iload_n 1, 1) := by decide +kernel
theorem D_M_toldMany_34 : decode m_M_toldMany.2.1 34 = .ok (.ireturn, 1) := by decide +kernel
theorem D_M_save_0 : decode m_M_save.2.1 0 = .ok (.iload_n 1, 1) := by decide +kernel
theorem D_M_save_1 : decode m_M_save.2.1 1 = .ok (.iconst 0, 1) := by decide +kernel
theorem D_M_save_2 : decode m_M_save.2.1 2 = .ok (.iconst 1, 1) := by decide +kernel
theorem D_M_save_3 : decode m_M_save.2.1 3 = .ok (.invokestatic 52, 3) := by decide +kernel
theorem D_M_save_6 : decode m_M_save.2.1 6 = .ok (.ifCond .ne 6, 3) := by decide +kernel
theorem D_M_save_9 : decode m_M_save.2.1 9 = .ok (.bipush (-2), 2) := by decide +kernel
theorem D_M_save_11 : decode m_M_save.2.1 11 = .ok (.ireturn, 1) := by decide +kernel
theorem D_M_save_12 : decode m_M_save.2.1 12 = .ok (.aload_n 0, 1) := by decide +kernel
theorem D_M_save_13 : decode m_M_save.2.1 13 = .ok (.getfield 19, 3) := by decide +kernel
theorem D_M_save_16 : decode m_M_save.2.1 16 = .ok (.iload_n 1, 1) := by decide +kernel
theorem D_M_save_17 : decode m_M_save.2.1 17 = .ok (.iconst 1, 1) := by decide +kernel
theorem D_M_save_18 : decode m_M_save.2.1 18 = .ok (.bastore, 1) := by decide +kernel
theorem D_M_save_19 : decode m_M_save.2.1 19 = .ok (.iconst 0, 1) := by decide +kernel
theorem D_M_save_20 : decode m_M_save.2.1 20 = .ok (.istore_n 2, 1) := by decide +kernel
theorem D_M_save_21 : decode m_M_save.2.1 21 = .ok (.iload_n 2, 1) := by decide +kernel
theorem D_M_save_22 : decode m_M_save.2.1 22 = .ok (.bipush 39, 2) := by decide +kernel
theorem D_M_save_24 : decode m_M_save.2.1 24 = .ok (.if_icmp .ge 26, 3) := by decide +kernel
theorem D_M_save_27 : decode m_M_save.2.1 27 = .ok (.aload_n 0, 1) := by decide +kernel
theorem D_M_save_28 : decode m_M_save.2.1 28 = .ok (.getfield 16, 3) := by decide +kernel
theorem D_M_save_31 : decode m_M_save.2.1 31 = .ok (.iload_n 1, 1) := by decide +kernel
theorem D_M_save_32 : decode m_M_save.2.1 32 = .ok (.bipush 39, 2) := by decide +kernel
theorem D_M_save_34 : decode m_M_save.2.1 34 = .ok (.imul, 1) := by decide +kernel
theorem D_M_save_35 : decode m_M_save.2.1 35 = .ok (.iload_n 2, 1) := by decide +kernel
theorem D_M_save_36 : decode m_M_save.2.1 36 = .ok (.iadd, 1) := by decide +kernel
theorem D_M_save_37 : decode m_M_save.2.1 37 = .ok (.aload_n 0, 1) := by decide +kernel
theorem D_M_save_38 : decode m_M_save.2.1 38 = .ok (.getfield 7, 3) := by decide +kernel
theorem D_M_save_41 : decode m_M_save.2.1 41 = .ok (.iload_n 2, 1) := by decide +kernel
theorem D_M_save_42 : decode m_M_save.2.1 42 = .ok (.iaload, 1) := by decide +kernel
theorem D_M_save_43 : decode m_M_save.2.1 43 = .ok (.iastore, 1) := by decide +kernel
theorem D_M_save_44 : decode m_M_save.2.1 44 = .ok (.iinc 2 1, 3) := by decide +kernel
theorem D_M_save_47 : decode m_M_save.2.1 47 = .ok (.goto (-26), 3) := by decide +kernel
theorem D_M_save_50 : decode m_M_save.2.1 50 = .ok (.aload_n 0, 1) := by decide +kernel
theorem D_M_save_51 : decode m_M_save.2.1 51 = .ok (.invokevirtual 56, 3) := by decide +kernel
theorem D_M_save_54 : decode m_M_save.2.1 54 = .ok (.ireturn, 1) := by decide +kernel
theorem D_M_restore_0 : decode m_M_restore.2.1 0 = .ok (.iload_n 1, 1) := by decide +kernel
theorem D_M_restore_1 : decode m_M_restore.2.1 1 = .ok (.iconst 0, 1) := by decide +kernel
theorem D_M_restore_2 : decode m_M_restore.2.1 2 = .ok (.iconst 1, 1) := by decide +kernel
theorem D_M_restore_3 : decode m_M_restore.2.1 3 = .ok (.invokestatic 52, 3) := by decide +kernel
theorem D_M_restore_6 : decode m_M_restore.2.1 6 = .ok (.ifCond .ne 6, 3) := by decide +kernel
theorem D_M_restore_9 : decode m_M_restore.2.1 9 = .ok (.bipush (-2), 2) := by decide +kernel
theorem D_M_restore_11 : decode m_M_restore.2.1 11 = .ok (.ireturn, 1) := by decide +kernel
theorem D_M_restore_12 : decode m_M_restore.2.1 12 = .ok (.aload_n 0, 1) := by decide +kernel
theorem D_M_restore_13 : decode m_M_restore.2.1 13 = .ok (.getfield 19, 3) := by decide +kernel
theorem D_M_restore_16 : decode m_M_restore.2.1 16 = .ok (.iload_n 1, 1) := by decide +kernel
theorem D_M_restore_17 : decode m_M_restore.2.1 17 = .ok (.baload, 1) := by decide +kernel
theorem D_M_restore_18 : decode m_M_restore.2.1 18 = .ok (.ifCond .ne 6, 3) := by decide +kernel
theorem D_M_restore_21 : decode m_M_restore.2.1 21 = .ok (.bipush (-5), 2) := by decide +kernel
theorem D_M_restore_23 : decode m_M_restore.2.1 23 = .ok (.ireturn, 1) := by decide +kernel
theorem D_M_restore_24 : decode m_M_restore.2.1 24 = .ok (.aload_n 0, 1) := by decide +kernel
theorem D_M_restore_25 : decode m_M_restore.2.1 25 = .ok (.invokevirtual 60, 3) := by decide +kernel
theorem D_M_restore_28 : decode m_M_restore.2.1 28 = .ok (.iconst 0, 1) := by decide +kernel
theorem D_M_restore_29 : decode m_M_restore.2.1 29 = .ok (.istore_n 2, 1) := by decide +kernel
theorem D_M_restore_30 : decode m_M_restore.2.1 30 = .ok (.iload_n 2, 1) := by decide +kernel
theorem D_M_restore_31 : decode m_M_restore.2.1 31 = .ok (.bipush 39, 2) := by decide +kernel
theorem D_M_restore_33 : decode m_M_restore.2.1 33 = .ok (.if_icmp .ge 26, 3) := by decide +kernel
theorem D_M_restore_36 : decode m_M_restore.2.1 36 = .ok (.aload_n 0, 1) := by decide +kernel
theorem D_M_restore_37 : decode m_M_restore.2.1 37 = .ok (.getfield 7, 3) := by decide +kernel
theorem D_M_restore_40 : decode m_M_restore.2.1 40 = .ok (.iload_n 2, 1) := by decide +kernel
theorem D_M_restore_41 : decode m_M_restore.2.1 41 = .ok (.aload_n 0, 1) := by decide +kernel
theorem D_M_restore_42 : decode m_M_restore.2.1 42 = .ok (.getfield 16, 3) := by decide +kernel
theorem D_M_restore_45 : decode m_M_restore.2.1 45 = .ok (.iload_n 1, 1) := by decide +kernel
theorem D_M_restore_46 : decode m_M_restore.2.1 46 = .ok (.bipush 39, 2) := by decide +kernel
theorem D_M_restore_48 : decode m_M_restore.2.1 48 = .ok (.imul, 1) := by decide +kernel
theorem D_M_restore_49 : decode m_M_restore.2.1 49 = .ok (.iload_n 2, 1) := by decide +kernel
theorem D_M_restore_50 : decode m_M_restore.2.1 50 = .ok (.iadd, 1) := by decide +kernel
theorem D_M_restore_51 : decode m_M_restore.2.1 51 = .ok (.iaload, 1) := by decide +kernel
theorem D_M_restore_52 : decode m_M_restore.2.1 52 = .ok (.iastore, 1) := by decide +kernel
theorem D_M_restore_53 : decode m_M_restore.2.1 53 = .ok (.iinc 2 1, 3) := by decide +kernel
theorem D_M_restore_56 : decode m_M_restore.2.1 56 = .ok (.goto (-26), 3) := by decide +kernel
theorem D_M_restore_59 : decode m_M_restore.2.1 59 = .ok (.aload_n 0, 1) := by decide +kernel
theorem D_M_restore_60 : decode m_M_restore.2.1 60 = .ok (.invokevirtual 56, 3) := by decide +kernel
theorem D_M_restore_63 : decode m_M_restore.2.1 63 = .ok (.ireturn, 1) := by decide +kernel
theorem D_M_times_0 : decode m_M_times.2.1 0 = .ok (.iload_n 1, 1) := by decide +kernel
theorem D_M_times_1 : decode m_M_times.2.1 1 = .ok (.iload_n 2, 1) := by decide +kernel
theorem D_M_times_2 : decode m_M_times.2.1 2 = .ok (.imul, 1) := by decide +kernel
theorem D_M_times_3 : decode m_M_times.2.1 3 = .ok (.aload_n 0, 1) := by decide +kernel
theorem D_M_times_4 : decode m_M_times.2.1 4 = .ok (.getfield 7, 3) := by decide +kernel
theorem D_M_times_7 : decode m_M_times.2.1 7 = .ok (.bipush 38, 2) := by decide +kernel
theorem D_M_times_9 : decode m_M_times.2.1 9 = .ok (.iaload, 1) := by decide +kernel
theorem D_M_times_10 : decode m_M_times.2.1 10 = .ok (.irem, 1) := by decide +kernel
theorem D_M_times_11 : decode m_M_times.2.1 11 = .ok (.ireturn, 1) := by decide +kernel
theorem D_M_over_0 : decode m_M_over.2.1 0 = .ok (.iconst 1, 1) := by decide +kernel
theorem D_M_over_1 : decode m_M_over.2.1 1 = .ok (.istore_n 2, 1) := by decide +kernel
theorem D_M_over_2 : decode m_M_over.2.1 2 = .ok (.iconst 1, 1) := by decide +kernel
theorem D_M_over_3 : decode m_M_over.2.1 3 = .ok (.istore_n 3, 1) := by decide +kernel
theorem D_M_over_4 : decode m_M_over.2.1 4 = .ok (.iload_n 3, 1) := by decide +kernel
theorem D_M_over_5 : decode m_M_over.2.1 5 = .ok (.aload_n 0, 1) := by decide +kernel
theorem D_M_over_6 : decode m_M_over.2.1 6 = .ok (.getfield 7, 3) := by decide +kernel
theorem D_M_over_9 : decode m_M_over.2.1 9 = .ok (.bipush 38, 2) := by decide +kernel
theorem D_M_over_11 : decode m_M_over.2.1 11 = .ok (.iaload, 1) := by decide +kernel
theorem D_M_over_12 : decode m_M_over.2.1 12 = .ok (.if_icmp .ge 25, 3) := by decide +kernel
theorem D_M_over_15 : decode m_M_over.2.1 15 = .ok (.aload_n 0, 1) := by decide +kernel
theorem D_M_over_16 : decode m_M_over.2.1 16 = .ok (.iload_n 1, 1) := by decide +kernel
theorem D_M_over_17 : decode m_M_over.2.1 17 = .ok (.iload_n 3, 1) := by decide +kernel
theorem D_M_over_18 : decode m_M_over.2.1 18 = .ok (.invokevirtual 63, 3) := by decide +kernel
theorem D_M_over_21 : decode m_M_over.2.1 21 = .ok (.iconst 1, 1) := by decide +kernel
theorem D_M_over_22 : decode m_M_over.2.1 22 = .ok (.if_icmp .ne 7, 3) := by decide +kernel
theorem D_M_over_25 : decode m_M_over.2.1 25 = .ok (.iload_n 3, 1) := by decide +kernel
theorem D_M_over_26 : decode m_M_over.2.1 26 = .ok (.goto 4, 3) := by decide +kernel
theorem D_M_over_29 : decode m_M_over.2.1 29 = .ok (.iload_n 2, 1) := by decide +kernel
theorem D_M_over_30 : decode m_M_over.2.1 30 = .ok (.istore_n 2, 1) := by decide +kernel
theorem D_M_over_31 : decode m_M_over.2.1 31 = .ok (.iinc 3 1, 3) := by decide +kernel
theorem D_M_over_34 : decode m_M_over.2.1 34 = .ok (.goto (-30), 3) := by decide +kernel
theorem D_M_over_37 : decode m_M_over.2.1 37 = .ok (.iload_n 2, 1) := by decide +kernel
theorem D_M_over_38 : decode m_M_over.2.1 38 = .ok (.ireturn, 1) := by decide +kernel
theorem D_M_at_0 : decode m_M_at.2.1 0 = .ok (.aload_n 0, 1) := by decide +kernel
theorem D_M_at_1 : decode m_M_at.2.1 1 = .ok (.getfield 7, 3) := by decide +kernel
theorem D_M_at_4 : decode m_M_at.2.1 4 = .ok (.bipush 6, 2) := by decide +kernel
theorem D_M_at_6 : decode m_M_at.2.1 6 = .ok (.iload_n 1, 1) := by decide +kernel
theorem D_M_at_7 : decode m_M_at.2.1 7 = .ok (.imul, 1) := by decide +kernel
theorem D_M_at_8 : decode m_M_at.2.1 8 = .ok (.iload_n 2, 1) := by decide +kernel
theorem D_M_at_9 : decode m_M_at.2.1 9 = .ok (.iadd, 1) := by decide +kernel
theorem D_M_at_10 : decode m_M_at.2.1 10 = .ok (.iaload, 1) := by decide +kernel
theorem D_M_at_11 : decode m_M_at.2.1 11 = .ok (.ireturn, 1) := by decide +kernel
theorem D_M_spread_0 : decode m_M_spread.2.1 0 = .ok (.iconst 1, 1) := by decide +kernel
theorem D_M_spread_1 : decode m_M_spread.2.1 1 = .ok (.istore_n 2, 1) := by decide +kernel
theorem D_M_spread_2 : decode m_M_spread.2.1 2 = .ok (.iload_n 2, 1) := by decide +kernel
theorem D_M_spread_3 : decode m_M_spread.2.1 3 = .ok (.ifCond .eq 190, 3) := by decide +kernel
theorem D_M_spread_6 : decode m_M_spread.2.1 6 = .ok (.iconst 0, 1) := by decide +kernel
theorem D_M_spread_7 : decode m_M_spread.2.1 7 = .ok (.istore_n 2, 1) := by decide +kernel
theorem D_M_spread_8 : decode m_M_spread.2.1 8 = .ok (.iconst 0, 1) := by decide +kernel
theorem D_M_spread_9 : decode m_M_spread.2.1 9 = .ok (.istore_n 3, 1) := by decide +kernel
theorem D_M_spread_10 : decode m_M_spread.2.1 10 = .ok (.iload_n 3, 1) := by decide +kernel
theorem D_M_spread_11 : decode m_M_spread.2.1 11 = .ok (.aload_n 0, 1) := by decide +kernel
theorem D_M_spread_12 : decode m_M_spread.2.1 12 = .ok (.getfield 7, 3) := by decide +kernel
theorem D_M_spread_15 : decode m_M_spread.2.1 15 = .ok (.bipush 36, 2) := by decide +kernel
theorem D_M_spread_17 : decode m_M_spread.2.1 17 = .ok (.iaload, 1) := by decide +kernel
theorem D_M_spread_18 : decode m_M_spread.2.1 18 = .ok (.if_icmp .ge 172, 3) := by decide +kernel
theorem D_M_spread_21 : decode m_M_spread.2.1 21 = .ok (.iconst 0, 1) := by decide +kernel
theorem D_M_spread_22 : decode m_M_spread.2.1 22 = .ok (.istore 4, 2) := by decide +kernel
theorem D_M_spread_24 : decode m_M_spread.2.1 24 = .ok (.iload 4, 2) := by decide +kernel
theorem D_M_spread_26 : decode m_M_spread.2.1 26 = .ok (.aload_n 0, 1) := by decide +kernel
theorem D_M_spread_27 : decode m_M_spread.2.1 27 = .ok (.getfield 7, 3) := by decide +kernel
theorem D_M_spread_30 : decode m_M_spread.2.1 30 = .ok (.bipush 37, 2) := by decide +kernel
theorem D_M_spread_32 : decode m_M_spread.2.1 32 = .ok (.iaload, 1) := by decide +kernel
theorem D_M_spread_33 : decode m_M_spread.2.1 33 = .ok (.if_icmp .ge 151, 3) := by decide +kernel
theorem D_M_spread_36 : decode m_M_spread.2.1 36 = .ok (.aload_n 0, 1) := by decide +kernel
theorem D_M_spread_37 : decode m_M_spread.2.1 37 = .ok (.iload_n 3, 1) := by decide +kernel
theorem D_M_spread_38 : decode m_M_spread.2.1 38 = .ok (.iload 4, 2) := by decide +kernel
theorem D_M_spread_40 : decode m_M_spread.2.1 40 = .ok (.invokevirtual 67, 3) := by decide +kernel
theorem D_M_spread_43 : decode m_M_spread.2.1 43 = .ok (.ifCond .le 66, 3) := by decide +kernel
theorem D_M_spread_46 : decode m_M_spread.2.1 46 = .ok (.aload_n 0, 1) := by decide +kernel
theorem D_M_spread_47 : decode m_M_spread.2.1 47 = .ok (.getfield 27, 3) := by decide +kernel
theorem D_M_spread_50 : decode m_M_spread.2.1 50 = .ok (.iload_n 3, 1) := by decide +kernel
theorem D_M_spread_51 : decode m_M_spread.2.1 51 = .ok (.iaload, 1) := by decide +kernel
theorem D_M_spread_52 : decode m_M_spread.2.1 52 = .ok (.iload_n 1, 1) := by decide +kernel
theorem D_M_spread_53 : decode m_M_spread.2.1 53 = .ok (.if_icmp .ne 56, 3) := by decide +kernel
theorem D_M_spread_56 : decode m_M_spread.2.1 56 = .ok (.aload_n 0, 1) := by decide +kernel
theorem D_M_spread_57 : decode m_M_spread.2.1 57 = .ok (.getfield 30, 3) := by decide +kernel
theorem D_M_spread_60 : decode m_M_spread.2.1 60 = .ok (.iload 4, 2) := by decide +kernel
theorem D_M_spread_62 : decode m_M_spread.2.1 62 = .ok (.iaload, 1) := by decide +kernel
theorem D_M_spread_63 : decode m_M_spread.2.1 63 = .ok (.bipush (-6), 2) := by decide +kernel
theorem D_M_spread_65 : decode m_M_spread.2.1 65 = .ok (.if_icmp .ne 44, 3) := by decide +kernel
theorem D_M_spread_68 : decode m_M_spread.2.1 68 = .ok (.aload_n 0, 1) := by decide +kernel
theorem D_M_spread_69 : decode m_M_spread.2.1 69 = .ok (.getfield 30, 3) := by decide +kernel
theorem D_M_spread_72 : decode m_M_spread.2.1 72 = .ok (.iload 4, 2) := by decide +kernel
theorem D_M_spread_74 : decode m_M_spread.2.1 74 = .ok (.iload_n 1, 1) := by decide +kernel
theorem D_M_spread_75 : decode m_M_spread.2.1 75 = .ok (.iastore, 1) := by decide +kernel
theorem D_M_spread_76 : decode m_M_spread.2.1 76 = .ok (.aload_n 0, 1) := by decide +kernel
theorem D_M_spread_77 : decode m_M_spread.2.1 77 = .ok (.getfield 36, 3) := by decide +kernel
theorem D_M_spread_80 : decode m_M_spread.2.1 80 = .ok (.iload 4, 2) := by decide +kernel
theorem D_M_spread_82 : decode m_M_spread.2.1 82 = .ok (.aload_n 0, 1) := by decide +kernel
theorem D_M_spread_83 : decode m_M_spread.2.1 83 = .ok (.aload_n 0, 1) := by decide +kernel
theorem D_M_spread_84 : decode m_M_spread.2.1 84 = .ok (.iload_n 3, 1) := by decide +kernel
theorem D_M_spread_85 : decode m_M_spread.2.1 85 = .ok (.iload 4, 2) := by decide +kernel
theorem D_M_spread_87 : decode m_M_spread.2.1 87 = .ok (.invokevirtual 67, 3) := by decide +kernel
theorem D_M_spread_90 : decode m_M_spread.2.1 90 = .ok (.aload_n 0, 1) := by decide +kernel
theorem D_M_spread_91 : decode m_M_spread.2.1 91 = .ok (.aload_n 0, 1) := by decide +kernel
theorem D_M_spread_92 : decode m_M_spread.2.1 92 = .ok (.getfield 33, 3) := by decide +kernel
theorem D_M_spread_95 : decode m_M_spread.2.1 95 = .ok (.iload_n 3, 1) := by decide +kernel
theorem D_M_spread_96 : decode m_M_spread.2.1 96 = .ok (.iaload, 1) := by decide +kernel
theorem D_M_spread_97 : decode m_M_spread.2.1 97 = .ok (.invokevirtual 70, 3) := by decide +kernel
theorem D_M_spread_100 : decode m_M_spread.2.1 100 = .ok (.invokevirtual 63, 3) := by decide +kernel
theorem D_M_spread_103 : decode m_M_spread.2.1 103 = .ok (.iastore, 1) := by decide +kernel
theorem D_M_spread_104 : decode m_M_spread.2.1 104 = .ok (.iconst 1, 1) := by decide +kernel
theorem D_M_spread_105 : decode m_M_spread.2.1 105 = .ok (.istore_n 2, 1) := by decide +kernel
theorem D_M_spread_106 : decode m_M_spread.2.1 106 = .ok (.goto 72, 3) := by decide +kernel
theorem D_M_spread_109 : decode m_M_spread.2.1 109 = .ok (.aload_n 0, 1) := by decide +kernel
theorem D_M_spread_110 : decode m_M_spread.2.1 110 = .ok (.iload_n 3, 1) := by decide +kernel
theorem D_M_spread_111 : decode m_M_spread.2.1 111 = .ok (.iload 4, 2) := by decide +kernel
theorem D_M_spread_113 : decode m_M_spread.2.1 113 = .ok (.invokevirtual 67, 3) := by decide +kernel
theorem D_M_spread_116 : decode m_M_spread.2.1 116 = .ok (.ifCond .le 62, 3) := by decide +kernel
theorem D_M_spread_119 : decode m_M_spread.2.1 119 = .ok (.aload_n 0, 1) := by decide +kernel
theorem D_M_spread_120 : decode m_M_spread.2.1 120 = .ok (.getfield 30, 3) := by decide +kernel
theorem D_M_spread_123 : decode m_M_spread.2.1 123 = .ok (.iload 4, 2) := by decide +kernel
theorem D_M_spread_125 : decode m_M_spread.2.1 125 = .ok (.iaload, 1) := by decide +kernel
theorem D_M_spread_126 : decode m_M_spread.2.1 126 = .ok (.iload_n 1, 1) := by decide +kernel
theorem D_M_spread_127 : decode m_M_spread.2.1 127 = .ok (.if_icmp .ne 51, 3) := by decide +kernel
theorem D_M_spread_130 : decode m_M_spread.2.1 130 = .ok (.aload_n 0, 1) := by decide +kernel
theorem D_M_spread_131 : decode m_M_spread.2.1 131 = .ok (.getfield 27, 3) := by decide +kernel
theorem D_M_spread_134 : decode m_M_spread.2.1 134 = .ok (.iload_n 3, 1) := by decide +kernel
theorem D_M_spread_135 : decode m_M_spread.2.1 135 = .ok (.iaload, 1) := by decide +kernel
theorem D_M_spread_136 : decode m_M_spread.2.1 136 = .ok (.bipush (-6), 2) := by decide +kernel
theorem D_M_spread_138 : decode m_M_spread.2.1 138 = .ok (.if_icmp .ne 40, 3) := by decide +kernel
theorem D_M_spread_141 : decode m_M_spread.2.1 141 = .ok (.aload_n 0, 1) := by decide +kernel
theorem D_M_spread_142 : decode m_M_spread.2.1 142 = .ok (.getfield 27, 3) := by decide +kernel
theorem D_M_spread_145 : decode m_M_spread.2.1 145 = .ok (.iload_n 3, 1) := by decide +kernel
theorem D_M_spread_146 : decode m_M_spread.2.1 146 = .ok (.iload_n 1, 1) := by decide +kernel
theorem D_M_spread_147 : decode m_M_spread.2.1 147 = .ok (.iastore, 1) := by decide +kernel
theorem D_M_spread_148 : decode m_M_spread.2.1 148 = .ok (.aload_n 0, 1) := by decide +kernel
theorem D_M_spread_149 : decode m_M_spread.2.1 149 = .ok (.getfield 33, 3) := by decide +kernel
theorem D_M_spread_152 : decode m_M_spread.2.1 152 = .ok (.iload_n 3, 1) := by decide +kernel
theorem D_M_spread_153 : decode m_M_spread.2.1 153 = .ok (.aload_n 0, 1) := by decide +kernel
theorem D_M_spread_154 : decode m_M_spread.2.1 154 = .ok (.aload_n 0, 1) := by decide +kernel
theorem D_M_spread_155 : decode m_M_spread.2.1 155 = .ok (.iload_n 3, 1) := by decide +kernel
theorem D_M_spread_156 : decode m_M_spread.2.1 156 = .ok (.iload 4, 2) := by decide +kernel
theorem D_M_spread_158 : decode m_M_spread.2.1 158 = .ok (.invokevirtual 67, 3) := by decide +kernel
theorem D_M_spread_161 : decode m_M_spread.2.1 161 = .ok (.aload_n 0, 1) := by decide +kernel
theorem D_M_spread_162 : decode m_M_spread.2.1 162 = .ok (.aload_n 0, 1) := by decide +kernel
theorem D_M_spread_163 : decode m_M_spread.2.1 163 = .ok (.getfield 36, 3) := by decide +kernel
theorem D_M_spread_166 : decode m_M_spread.2.1 166 = .ok (.iload 4, 2) := by decide +kernel
theorem D_M_spread_168 : decode m_M_spread.2.1 168 = .ok (.iaload, 1) := by decide +kernel
theorem D_M_spread_169 : decode m_M_spread.2.1 169 = .ok (.invokevirtual 70, 3) := by decide +kernel
theorem D_M_spread_172 : decode m_M_spread.2.1 172 = .ok (.invokevirtual 63, 3) := by decide +kernel
theorem D_M_spread_175 : decode m_M_spread.2.1 175 = .ok (.iastore, 1) := by decide +kernel
theorem D_M_spread_176 : decode m_M_spread.2.1 176 = .ok (.iconst 1, 1) := by decide +kernel
theorem D_M_spread_177 : decode m_M_spread.2.1 177 = .ok (.istore_n 2, 1) := by decide +kernel
theorem D_M_spread_178 : decode m_M_spread.2.1 178 = .ok (.iinc 4 1, 3) := by decide +kernel
theorem D_M_spread_181 : decode m_M_spread.2.1 181 = .ok (.goto (-157), 3) := by decide +kernel
theorem D_M_spread_184 : decode m_M_spread.2.1 184 = .ok (.iinc 3 1, 3) := by decide +kernel
theorem D_M_spread_187 : decode m_M_spread.2.1 187 = .ok (.goto (-177), 3) := by decide +kernel
theorem D_M_spread_190 : decode m_M_spread.2.1 190 = .ok (.goto (-188), 3) := by decide +kernel
theorem D_M_spread_193 : decode m_M_spread.2.1 193 = .ok (.return_, 1) := by decide +kernel
theorem D_M_layParts_0 : decode m_M_layParts.2.1 0 = .ok (.aload_n 0, 1) := by decide +kernel
theorem D_M_layParts_1 : decode m_M_layParts.2.1 1 = .ok (.iconst 0, 1) := by decide +kernel
theorem D_M_layParts_2 : decode m_M_layParts.2.1 2 = .ok (.putfield 74, 3) := by decide +kernel
theorem D_M_layParts_5 : decode m_M_layParts.2.1 5 = .ok (.iconst 0, 1) := by decide +kernel
theorem D_M_layParts_6 : decode m_M_layParts.2.1 6 = .ok (.istore_n 1, 1) := by decide +kernel
theorem D_M_layParts_7 : decode m_M_layParts.2.1 7 = .ok (.iload_n 1, 1) := by decide +kernel
theorem D_M_layParts_8 : decode m_M_layParts.2.1 8 = .ok (.bipush 6, 2) := by decide +kernel
theorem D_M_layParts_10 : decode m_M_layParts.2.1 10 = .ok (.if_icmp .ge 39, 3) := by decide +kernel
theorem D_M_layParts_13 : decode m_M_layParts.2.1 13 = .ok (.aload_n 0, 1) := by decide +kernel
theorem D_M_layParts_14 : decode m_M_layParts.2.1 14 = .ok (.getfield 27, 3) := by decide +kernel
theorem D_M_layParts_17 : decode m_M_layParts.2.1 17 = .ok (.iload_n 1, 1) := by decide +kernel
theorem D_M_layParts_18 : decode m_M_layParts.2.1 18 = .ok (.bipush (-6), 2) := by decide +kernel
theorem D_M_layParts_20 : decode m_M_layParts.2.1 20 = .ok (.iastore, 1) := by decide +kernel
theorem D_M_layParts_21 : decode m_M_layParts.2.1 21 = .ok (.aload_n 0, 1) := by decide +kernel
theorem D_M_layParts_22 : decode m_M_layParts.2.1 22 = .ok (.getfield 30, 3) := by decide +kernel
theorem D_M_layParts_25 : decode m_M_layParts.2.1 25 = .ok (.iload_n 1, 1) := by decide +kernel
theorem D_M_layParts_26 : decode m_M_layParts.2.1 26 = .ok (.bipush (-6), 2) := by decide +kernel
theorem D_M_layParts_28 : decode m_M_layParts.2.1 28 = .ok (.iastore, 1) := by decide +kernel
theorem D_M_layParts_29 : decode m_M_layParts.2.1 29 = .ok (.aload_n 0, 1) := by decide +kernel
theorem D_M_layParts_30 : decode m_M_layParts.2.1 30 = .ok (.getfield 33, 3) := by decide +kernel
theorem D_M_layParts_33 : decode m_M_layParts.2.1 33 = .ok (.iload_n 1, 1) := by decide +kernel
theorem D_M_layParts_34 : decode m_M_layParts.2.1 34 = .ok (.iconst 1, 1) := by decide +kernel
theorem D_M_layParts_35 : decode m_M_layParts.2.1 35 = .ok (.iastore, 1) := by decide +kernel
theorem D_M_layParts_36 : decode m_M_layParts.2.1 36 = .ok (.aload_n 0, 1) := by decide +kernel
theorem D_M_layParts_37 : decode m_M_layParts.2.1 37 = .ok (.getfield 36, 3) := by decide +kernel
theorem D_M_layParts_40 : decode m_M_layParts.2.1 40 = .ok (.iload_n 1, 1) := by decide +kernel
theorem D_M_layParts_41 : decode m_M_layParts.2.1 41 = .ok (.iconst 1, 1) := by decide +kernel
theorem D_M_layParts_42 : decode m_M_layParts.2.1 42 = .ok (.iastore, 1) := by decide +kernel
theorem D_M_layParts_43 : decode m_M_layParts.2.1 43 = .ok (.iinc 1 1, 3) := by decide +kernel
theorem D_M_layParts_46 : decode m_M_layParts.2.1 46 = .ok (.goto (-39), 3) := by decide +kernel
theorem D_M_layParts_49 : decode m_M_layParts.2.1 49 = .ok (.iconst 0, 1) := by decide +kernel
theorem D_M_layParts_50 : decode m_M_layParts.2.1 50 = .ok (.istore_n 1, 1) := by decide +kernel
theorem D_M_layParts_51 : decode m_M_layParts.2.1 51 = .ok (.iload_n 1, 1) := by decide +kernel
theorem D_M_layParts_52 : decode m_M_layParts.2.1 52 = .ok (.aload_n 0, 1) := by decide +kernel
theorem D_M_layParts_53 : decode m_M_layParts.2.1 53 = .ok (.getfield 7, 3) := by decide +kernel
theorem D_M_layParts_56 : decode m_M_layParts.2.1 56 = .ok (.bipush 36, 2) := by decide +kernel
theorem D_M_layParts_58 : decode m_M_layParts.2.1 58 = .ok (.iaload, 1) := by decide +kernel
theorem D_M_layParts_59 : decode m_M_layParts.2.1 59 = .ok (.if_icmp .ge 48, 3) := by decide +kernel
theorem D_M_layParts_62 : decode m_M_layParts.2.1 62 = .ok (.aload_n 0, 1) := by decide +kernel
theorem D_M_layParts_63 : decode m_M_layParts.2.1 63 = .ok (.getfield 27, 3) := by decide +kernel
theorem D_M_layParts_66 : decode m_M_layParts.2.1 66 = .ok (.iload_n 1, 1) := by decide +kernel
theorem D_M_layParts_67 : decode m_M_layParts.2.1 67 = .ok (.iaload, 1) := by decide +kernel
theorem D_M_layParts_68 : decode m_M_layParts.2.1 68 = .ok (.bipush (-6), 2) := by decide +kernel
theorem D_M_layParts_70 : decode m_M_layParts.2.1 70 = .ok (.if_icmp .ne 31, 3) := by decide +kernel
theorem D_M_layParts_73 : decode m_M_layParts.2.1 73 = .ok (.aload_n 0, 1) := by decide +kernel
theorem D_M_layParts_74 : decode m_M_layParts.2.1 74 = .ok (.getfield 27, 3) := by decide +kernel
theorem D_M_layParts_77 : decode m_M_layParts.2.1 77 = .ok (.iload_n 1, 1) := by decide +kernel
theorem D_M_layParts_78 : decode m_M_layParts.2.1 78 = .ok (.aload_n 0, 1) := by decide +kernel
theorem D_M_layParts_79 : decode m_M_layParts.2.1 79 = .ok (.getfield 74, 3) := by decide +kernel
theorem D_M_layParts_82 : decode m_M_layParts.2.1 82 = .ok (.iastore, 1) := by decide +kernel
theorem D_M_layParts_83 : decode m_M_layParts.2.1 83 = .ok (.aload_n 0, 1) := by decide +kernel
theorem D_M_layParts_84 : decode m_M_layParts.2.1 84 = .ok (.aload_n 0, 1) := by decide +kernel
theorem D_M_layParts_85 : decode m_M_layParts.2.1 85 = .ok (.getfield 74, 3) := by decide +kernel
theorem D_M_layParts_88 : decode m_M_layParts.2.1 88 = .ok (.invokevirtual 77, 3) := by decide +kernel
theorem D_M_layParts_91 : decode m_M_layParts.2.1 91 = .ok (.aload_n 0, 1) := by decide +kernel
theorem D_M_layParts_92 : decode m_M_layParts.2.1 92 = .ok (.dup, 1) := by decide +kernel
theorem D_M_layParts_93 : decode m_M_layParts.2.1 93 = .ok (.getfield 74, 3) := by decide +kernel
theorem D_M_layParts_96 : decode m_M_layParts.2.1 96 = .ok (.iconst 1, 1) := by decide +kernel
theorem D_M_layParts_97 : decode m_M_layParts.2.1 97 = .ok (.iadd, 1) := by decide +kernel
theorem D_M_layParts_98 : decode m_M_layParts.2.1 98 = .ok (.putfield 74, 3) := by decide +kernel
theorem D_M_layParts_101 : decode m_M_layParts.2.1 101 = .ok (.iinc 1 1, 3) := by decide +kernel
theorem D_M_layParts_104 : decode m_M_layParts.2.1 104 = .ok (.goto (-53), 3) := by decide +kernel
theorem D_M_layParts_107 : decode m_M_layParts.2.1 107 = .ok (.iconst 0, 1) := by decide +kernel
theorem D_M_layParts_108 : decode m_M_layParts.2.1 108 = .ok (.istore_n 1, 1) := by decide +kernel
theorem D_M_layParts_109 : decode m_M_layParts.2.1 109 = .ok (.iload_n 1, 1) := by decide +kernel
theorem D_M_layParts_110 : decode m_M_layParts.2.1 110 = .ok (.aload_n 0, 1) := by decide +kernel
theorem D_M_layParts_111 : decode m_M_layParts.2.1 111 = .ok (.getfield 7, 3) := by decide +kernel
theorem D_M_layParts_114 : decode m_M_layParts.2.1 114 = .ok (.bipush 37, 2) := by decide +kernel
theorem D_M_layParts_116 : decode m_M_layParts.2.1 116 = .ok (.iaload, 1) := by decide +kernel
theorem D_M_layParts_117 : decode m_M_layParts.2.1 117 = .ok (.if_icmp .ge 40, 3) := by decide +kernel
theorem D_M_layParts_120 : decode m_M_layParts.2.1 120 = .ok (.aload_n 0, 1) := by decide +kernel
theorem D_M_layParts_121 : decode m_M_layParts.2.1 121 = .ok (.getfield 30, 3) := by decide +kernel
theorem D_M_layParts_124 : decode m_M_layParts.2.1 124 = .ok (.iload_n 1, 1) := by decide +kernel
theorem D_M_layParts_125 : decode m_M_layParts.2.1 125 = .ok (.iaload, 1) := by decide +kernel
theorem D_M_layParts_126 : decode m_M_layParts.2.1 126 = .ok (.bipush (-6), 2) := by decide +kernel
theorem D_M_layParts_128 : decode m_M_layParts.2.1 128 = .ok (.if_icmp .ne 23, 3) := by decide +kernel
theorem D_M_layParts_131 : decode m_M_layParts.2.1 131 = .ok (.aload_n 0, 1) := by decide +kernel
theorem D_M_layParts_132 : decode m_M_layParts.2.1 132 = .ok (.getfield 30, 3) := by decide +kernel
theorem D_M_layParts_135 : decode m_M_layParts.2.1 135 = .ok (.iload_n 1, 1) := by decide +kernel
theorem D_M_layParts_136 : decode m_M_layParts.2.1 136 = .ok (.aload_n 0, 1) := by decide +kernel
theorem D_M_layParts_137 : decode m_M_layParts.2.1 137 = .ok (.getfield 74, 3) := by decide +kernel
theorem D_M_layParts_140 : decode m_M_layParts.2.1 140 = .ok (.iastore, 1) := by decide +kernel
theorem D_M_layParts_141 : decode m_M_layParts.2.1 141 = .ok (.aload_n 0, 1) := by decide +kernel
theorem D_M_layParts_142 : decode m_M_layParts.2.1 142 = .ok (.dup, 1) := by decide +kernel
theorem D_M_layParts_143 : decode m_M_layParts.2.1 143 = .ok (.getfield 74, 3) := by decide +kernel
theorem D_M_layParts_146 : decode m_M_layParts.2.1 146 = .ok (.iconst 1, 1) := by decide +kernel
theorem D_M_layParts_147 : decode m_M_layParts.2.1 147 = .ok (.iadd, 1) := by decide +kernel
theorem D_M_layParts_148 : decode m_M_layParts.2.1 148 = .ok (.putfield 74, 3) := by decide +kernel
theorem D_M_layParts_151 : decode m_M_layParts.2.1 151 = .ok (.iinc 1 1, 3) := by decide +kernel
theorem D_M_layParts_154 : decode m_M_layParts.2.1 154 = .ok (.goto (-45), 3) := by decide +kernel
theorem D_M_layParts_157 : decode m_M_layParts.2.1 157 = .ok (.aload_n 0, 1) := by decide +kernel
theorem D_M_layParts_158 : decode m_M_layParts.2.1 158 = .ok (.iconst 1, 1) := by decide +kernel
theorem D_M_layParts_159 : decode m_M_layParts.2.1 159 = .ok (.putfield 81, 3) := by decide +kernel
theorem D_M_layParts_162 : decode m_M_layParts.2.1 162 = .ok (.iconst 0, 1) := by decide +kernel
theorem D_M_layParts_163 : decode m_M_layParts.2.1 163 = .ok (.istore_n 1, 1) := by decide +kernel
theorem D_M_layParts_164 : decode m_M_layParts.2.1 164 = .ok (.iload_n 1, 1) := by decide +kernel
theorem D_M_layParts_165 : decode m_M_layParts.2.1 165 = .ok (.aload_n 0, 1) := by decide +kernel
theorem D_M_layParts_166 : decode m_M_layParts.2.1 166 = .ok (.getfield 7, 3) := by decide +kernel
theorem D_M_layParts_169 : decode m_M_layParts.2.1 169 = .ok (.bipush 36, 2) := by decide +kernel
theorem D_M_layParts_171 : decode m_M_layParts.2.1 171 = .ok (.iaload, 1) := by decide +kernel
theorem D_M_layParts_172 : decode m_M_layParts.2.1 172 = .ok (.if_icmp .ge 78, 3) := by decide +kernel
theorem D_M_layParts_175 : decode m_M_layParts.2.1 175 = .ok (.iconst 0, 1) := by decide +kernel
theorem D_M_layParts_176 : decode m_M_layParts.2.1 176 = .ok (.istore_n 2, 1) := by decide +kernel
theorem D_M_layParts_177 : decode m_M_layParts.2.1 177 = .ok (.iload_n 2, 1) := by decide +kernel
theorem D_M_layParts_178 : decode m_M_layParts.2.1 178 = .ok (.aload_n 0, 1) := by decide +kernel
theorem D_M_layParts_179 : decode m_M_layParts.2.1 179 = .ok (.getfield 7, 3) := by decide +kernel
theorem D_M_layParts_182 : decode m_M_layParts.2.1 182 = .ok (.bipush 37, 2) := by decide +kernel
theorem D_M_layParts_184 : decode m_M_layParts.2.1 184 = .ok (.iaload, 1) := by decide +kernel
theorem D_M_layParts_185 : decode m_M_layParts.2.1 185 = .ok (.if_icmp .ge 59, 3) := by decide +kernel
theorem D_M_layParts_188 : decode m_M_layParts.2.1 188 = .ok (.aload_n 0, 1) := by decide +kernel
theorem D_M_layParts_189 : decode m_M_layParts.2.1 189 = .ok (.aload_n 0, 1) := by decide +kernel
theorem D_M_layParts_190 : decode m_M_layParts.2.1 190 = .ok (.getfield 81, 3) := by decide +kernel
theorem D_M_layParts_193 : decode m_M_layParts.2.1 193 = .ok (.ifCond .eq 41, 3) := by decide +kernel
theorem D_M_layParts_196 : decode m_M_layParts.2.1 196 = .ok (.aload_n 0, 1) := by decide +kernel
theorem D_M_layParts_197 : decode m_M_layParts.2.1 197 = .ok (.iload_n 1, 1) := by decide +kernel
theorem D_M_layParts_198 : decode m_M_layParts.2.1 198 = .ok (.iload_n 2, 1) := by decide +kernel
theorem D_M_layParts_199 : decode m_M_layParts.2.1 199 = .ok (.invokevirtual 67, 3) := by decide +kernel
theorem D_M_layParts_202 : decode m_M_layParts.2.1 202 = .ok (.ifCond .eq 28, 3) := by decide +kernel
theorem D_M_layParts_205 : decode m_M_layParts.2.1 205 = .ok (.aload_n 0, 1) := by decide +kernel
theorem D_M_layParts_206 : decode m_M_layParts.2.1 206 = .ok (.iload_n 1, 1) := by decide +kernel
theorem D_M_layParts_207 : decode m_M_layParts.2.1 207 = .ok (.iload_n 2, 1) := by decide +kernel
theorem D_M_layParts_208 : decode m_M_layParts.2.1 208 = .ok (.invokevirtual 67, 3) := by decide +kernel
theorem D_M_layParts_211 : decode m_M_layParts.2.1 211 = .ok (.aload_n 0, 1) := by decide +kernel
theorem D_M_layParts_212 : decode m_M_layParts.2.1 212 = .ok (.aload_n 0, 1) := by decide +kernel
theorem D_M_layParts_213 : decode m_M_layParts.2.1 213 = .ok (.getfield 33, 3) := by decide +kernel
theorem D_M_layParts_216 : decode m_M_layParts.2.1 216 = .ok (.iload_n 1, 1) := by decide +kernel
theorem D_M_layParts_217 : decode m_M_layParts.2.1 217 = .ok (.iaload, 1) := by decide +kernel
theorem D_M_layParts_218 : decode m_M_layParts.2.1 218 = .ok (.aload_n 0, 1) := by decide +kernel
theorem D_M_layParts_219 : decode m_M_layParts.2.1 219 = .ok (.getfield 36, 3) := by decide +kernel
theorem D_M_layParts_222 : decode m_M_layParts.2.1 222 = .ok (.iload_n 2, 1) := by decide +kernel
theorem D_M_layParts_223 : decode m_M_layParts.2.1 223 = .ok (.iaload, 1) := by decide +kernel
theorem D_M_layParts_224 : decode m_M_layParts.2.1 224 = .ok (.invokevirtual 63, 3) := by decide +kernel
theorem D_M_layParts_227 : decode m_M_layParts.2.1 227 = .ok (.if_icmp .ne 7, 3) := by decide +kernel
theorem D_M_layParts_230 : decode m_M_layParts.2.1 230 = .ok (.iconst 1, 1) := by decide +kernel
theorem D_M_layParts_231 : decode m_M_layParts.2.1 231 = .ok (.goto 4, 3) := by decide +kernel
theorem D_M_layParts_234 : decode m_M_layParts.2.1 234 = .ok (.iconst 0, 1) := by decide +kernel
theorem D_M_layParts_235 : decode m_M_layParts.2.1 235 = .ok (.putfield 81, 3) := by decide +kernel
theorem D_M_layParts_238 : decode m_M_layParts.2.1 238 = .ok (.iinc 2 1, 3) := by decide +kernel
theorem D_M_layParts_241 : decode m_M_layParts.2.1 241 = .ok (.goto (-64), 3) := by decide +kernel
theorem D_M_layParts_244 : decode m_M_layParts.2.1 244 = .ok (.iinc 1 1, 3) := by decide +kernel
theorem D_M_layParts_247 : decode m_M_layParts.2.1 247 = .ok (.goto (-83), 3) := by decide +kernel
theorem D_M_layParts_250 : decode m_M_layParts.2.1 250 = .ok (.return_, 1) := by decide +kernel
theorem D_M_isWellWith_0 : decode m_M_isWellWith.2.1 0 = .ok (.aload_n 0, 1) := by decide +kernel
theorem D_M_isWellWith_1 : decode m_M_isWellWith.2.1 1 = .ok (.getfield 7, 3) := by decide +kernel
theorem D_M_isWellWith_4 : decode m_M_isWellWith.2.1 4 = .ok (.iload_n 1, 1) := by decide +kernel
theorem D_M_isWellWith_5 : decode m_M_isWellWith.2.1 5 = .ok (.iaload, 1) := by decide +kernel
theorem D_M_isWellWith_6 : decode m_M_isWellWith.2.1 6 = .ok (.istore_n 3, 1) := by decide +kernel
theorem D_M_isWellWith_7 : decode m_M_isWellWith.2.1 7 = .ok (.aload_n 0, 1) := by decide +kernel
theorem D_M_isWellWith_8 : decode m_M_isWellWith.2.1 8 = .ok (.getfield 7, 3) := by decide +kernel
theorem D_M_isWellWith_11 : decode m_M_isWellWith.2.1 11 = .ok (.iload_n 1, 1) := by decide +kernel
theorem D_M_isWellWith_12 : decode m_M_isWellWith.2.1 12 = .ok (.iload_n 2, 1) := by decide +kernel
theorem D_M_isWellWith_13 : decode m_M_isWellWith.2.1 13 = .ok (.iastore, 1) := by decide +kernel
theorem D_M_isWellWith_14 : decode m_M_isWellWith.2.1 14 = .ok (.aload_n 0, 1) := by decide +kernel
theorem D_M_isWellWith_15 : decode m_M_isWellWith.2.1 15 = .ok (.invokevirtual 85, 3) := by decide +kernel
theorem D_M_isWellWith_18 : decode m_M_isWellWith.2.1 18 = .ok (.aload_n 0, 1) := by decide +kernel
theorem D_M_isWellWith_19 : decode m_M_isWellWith.2.1 19 = .ok (.getfield 7, 3) := by decide +kernel
theorem D_M_isWellWith_22 : decode m_M_isWellWith.2.1 22 = .ok (.iload_n 1, 1) := by decide +kernel
theorem D_M_isWellWith_23 : decode m_M_isWellWith.2.1 23 = .ok (.iload_n 3, 1) := by decide +kernel
theorem D_M_isWellWith_24 : decode m_M_isWellWith.2.1 24 = .ok (.iastore, 1) := by decide +kernel
theorem D_M_isWellWith_25 : decode m_M_isWellWith.2.1 25 = .ok (.aload_n 0, 1) := by decide +kernel
theorem D_M_isWellWith_26 : decode m_M_isWellWith.2.1 26 = .ok (.getfield 81, 3) := by decide +kernel
theorem D_M_isWellWith_29 : decode m_M_isWellWith.2.1 29 = .ok (.ireturn, 1) := by decide +kernel
theorem D_M_begin_0 : decode m_M_begin.2.1 0 = .ok (.iload_n 3, 1) := by decide +kernel
theorem D_M_begin_1 : decode m_M_begin.2.1 1 = .ok (.iconst 5, 1) := by decide +kernel
theorem D_M_begin_2 : decode m_M_begin.2.1 2 = .ok (.if_icmp .eq 21, 3) := by decide +kernel
theorem D_M_begin_5 : decode m_M_begin.2.1 5 = .ok (.iload_n 3, 1) := by decide +kernel
theorem D_M_begin_6 : decode m_M_begin.2.1 6 = .ok (.bipush 7, 2) := by decide +kernel
theorem D_M_begin_8 : decode m_M_begin.2.1 8 = .ok (.if_icmp .eq 15, 3) := by decide +kernel
theorem D_M_begin_11 : decode m_M_begin.2.1 11 = .ok (.iload_n 3, 1) := by decide +kernel
theorem D_M_begin_12 : decode m_M_begin.2.1 12 = .ok (.bipush 11, 2) := by decide +kernel
theorem D_M_begin_14 : decode m_M_begin.2.1 14 = .ok (.if_icmp .eq 9, 3) := by decide +kernel
theorem D_M_begin_17 : decode m_M_begin.2.1 17 = .ok (.iload_n 3, 1) := by decide +kernel
theorem D_M_begin_18 : decode m_M_begin.2.1 18 = .ok (.bipush 13, 2) := by decide +kernel
theorem D_M_begin_20 : decode m_M_begin.2.1 20 = .ok (.if_icmp .ne 7, 3) := by decide +kernel
theorem D_M_begin_23 : decode m_M_begin.2.1 23 = .ok (.iconst 1, 1) := by decide +kernel
theorem D_M_begin_24 : decode m_M_begin.2.1 24 = .ok (.goto 4, 3) := by decide +kernel
theorem D_M_begin_27 : decode m_M_begin.2.1 27 = .ok (.iconst 0, 1) := by decide +kernel
theorem D_M_begin_28 : decode m_M_begin.2.1 28 = .ok (.istore 4, 2) := by decide +kernel
theorem D_M_begin_30 : decode m_M_begin.2.1 30 = .ok (.iload 4, 2) := by decide +kernel
theorem D_M_begin_32 : decode m_M_begin.2.1 32 = .ok (.ifCond .eq 23, 3) := by decide +kernel
theorem D_M_begin_35 : decode m_M_begin.2.1 35 = .ok (.iload_n 1, 1) := by decide +kernel
theorem D_M_begin_36 : decode m_M_begin.2.1 36 = .ok (.iconst 2, 1) := by decide +kernel
theorem D_M_begin_37 : decode m_M_begin.2.1 37 = .ok (.bipush 6, 2) := by decide +kernel
theorem D_M_begin_39 : decode m_M_begin.2.1 39 = .ok (.invokestatic 52, 3) := by decide +kernel
theorem D_M_begin_42 : decode m_M_begin.2.1 42 = .ok (.ifCond .eq 13, 3) := by decide +kernel
theorem D_M_begin_45 : decode m_M_begin.2.1 45 = .ok (.iload_n 2, 1) := by decide +kernel
theorem D_M_begin_46 : decode m_M_begin.2.1 46 = .ok (.iconst 2, 1) := by decide +kernel
theorem D_M_begin_47 : decode m_M_begin.2.1 47 = .ok (.bipush 6, 2) := by decide +kernel
theorem D_M_begin_49 : decode m_M_begin.2.1 49 = .ok (.invokestatic 52, 3) := by decide +kernel
theorem D_M_begin_52 : decode m_M_begin.2.1 52 = .ok (.ifCond .ne 6, 3) := by decide +kernel
theorem D_M_begin_55 : decode m_M_begin.2.1 55 = .ok (.bipush (-2), 2) := by decide +kernel
theorem D_M_begin_57 : decode m_M_begin.2.1 57 = .ok (.ireturn, 1) := by decide +kernel
theorem D_M_begin_58 : decode m_M_begin.2.1 58 = .ok (.aload_n 0, 1) := by decide +kernel
theorem D_M_begin_59 : decode m_M_begin.2.1 59 = .ok (.invokevirtual 60, 3) := by decide +kernel
theorem D_M_begin_62 : decode m_M_begin.2.1 62 = .ok (.aload_n 0, 1) := by decide +kernel
theorem D_M_begin_63 : decode m_M_begin.2.1 63 = .ok (.invokevirtual 56, 3) := by decide +kernel
theorem D_M_begin_66 : decode m_M_begin.2.1 66 = .ok (.istore 5, 2) := by decide +kernel
theorem D_M_begin_68 : decode m_M_begin.2.1 68 = .ok (.iconst 0, 1) := by decide +kernel
theorem D_M_begin_69 : decode m_M_begin.2.1 69 = .ok (.istore 6, 2) := by decide +kernel
theorem D_M_begin_71 : decode m_M_begin.2.1 71 = .ok (.iload 6, 2) := by decide +kernel
theorem D_M_begin_73 : decode m_M_begin.2.1 73 = .ok (.bipush 36, 2) := by decide +kernel
theorem D_M_begin_75 : decode m_M_begin.2.1 75 = .ok (.if_icmp .ge 17, 3) := by decide +kernel
theorem D_M_begin_78 : decode m_M_begin.2.1 78 = .ok (.aload_n 0, 1) := by decide +kernel
theorem D_M_begin_79 : decode m_M_begin.2.1 79 = .ok (.getfield 7, 3) := by decide +kernel
theorem D_M_begin_82 : decode m_M_begin.2.1 82 = .ok (.iload 6, 2) := by decide +kernel
theorem D_M_begin_84 : decode m_M_begin.2.1 84 = .ok (.iconst 0, 1) := by decide +kernel
theorem D_M_begin_85 : decode m_M_begin.2.1 85 = .ok (.iastore, 1) := by decide +kernel
theorem D_M_begin_86 : decode m_M_begin.2.1 86 = .ok (.iinc 6 1, 3) := by decide +kernel
theorem D_M_begin_89 : decode m_M_begin.2.1 89 = .ok (.goto (-18), 3) := by decide +kernel
theorem D_M_begin_92 : decode m_M_begin.2.1 92 = .ok (.aload_n 0, 1) := by decide +kernel
theorem D_M_begin_93 : decode m_M_begin.2.1 93 = .ok (.getfield 7, 3) := by decide +kernel
theorem D_M_begin_96 : decode m_M_begin.2.1 96 = .ok (.bipush 36, 2) := by decide +kernel
theorem D_M_begin_98 : decode m_M_begin.2.1 98 = .ok (.iload_n 1, 1) := by decide +kernel
theorem D_M_begin_99 : decode m_M_begin.2.1 99 = .ok (.iastore, 1) := by decide +kernel
theorem D_M_begin_100 : decode m_M_begin.2.1 100 = .ok (.aload_n 0, 1) := by decide +kernel
theorem D_M_begin_101 : decode m_M_begin.2.1 101 = .ok (.getfield 7, 3) := by decide +kernel
theorem D_M_begin_104 : decode m_M_begin.2.1 104 = .ok (.bipush 37, 2) := by decide +kernel
theorem D_M_begin_106 : decode m_M_begin.2.1 106 = .ok (.iload_n 2, 1) := by decide +kernel
theorem D_M_begin_107 : decode m_M_begin.2.1 107 = .ok (.iastore, 1) := by decide +kernel
theorem D_M_begin_108 : decode m_M_begin.2.1 108 = .ok (.aload_n 0, 1) := by decide +kernel
theorem D_M_begin_109 : decode m_M_begin.2.1 109 = .ok (.getfield 7, 3) := by decide +kernel
theorem D_M_begin_112 : decode m_M_begin.2.1 112 = .ok (.bipush 38, 2) := by decide +kernel
theorem D_M_begin_114 : decode m_M_begin.2.1 114 = .ok (.iload_n 3, 1) := by decide +kernel
theorem D_M_begin_115 : decode m_M_begin.2.1 115 = .ok (.iastore, 1) := by decide +kernel
theorem D_M_begin_116 : decode m_M_begin.2.1 116 = .ok (.iload 5, 2) := by decide +kernel
theorem D_M_begin_118 : decode m_M_begin.2.1 118 = .ok (.ireturn, 1) := by decide +kernel
theorem D_M_tell_0 : decode m_M_tell.2.1 0 = .ok (.aload_n 0, 1) := by decide +kernel
theorem D_M_tell_1 : decode m_M_tell.2.1 1 = .ok (.iload_n 1, 1) := by decide +kernel
theorem D_M_tell_2 : decode m_M_tell.2.1 2 = .ok (.iload_n 2, 1) := by decide +kernel
theorem D_M_tell_3 : decode m_M_tell.2.1 3 = .ok (.invokevirtual 88, 3) := by decide +kernel
theorem D_M_tell_6 : decode m_M_tell.2.1 6 = .ok (.ifCond .ne 5, 3) := by decide +kernel
theorem D_M_tell_9 : decode m_M_tell.2.1 9 = .ok (.iconst (-1), 1) := by decide +kernel
theorem D_M_tell_10 : decode m_M_tell.2.1 10 = .ok (.ireturn, 1) := by decide +kernel
theorem D_M_tell_11 : decode m_M_tell.2.1 11 = .ok (.iload_n 3, 1) := by decide +kernel
theorem D_M_tell_12 : decode m_M_tell.2.1 12 = .ok (.iconst 0, 1) := by decide +kernel
theorem D_M_tell_13 : decode m_M_tell.2.1 13 = .ok (.aload_n 0, 1) := by decide +kernel
theorem D_M_tell_14 : decode m_M_tell.2.1 14 = .ok (.getfield 7, 3) := by decide +kernel
theorem D_M_tell_17 : decode m_M_tell.2.1 17 = .ok (.bipush 38, 2) := by decide +kernel
theorem D_M_tell_19 : decode m_M_tell.2.1 19 = .ok (.iaload, 1) := by decide +kernel
theorem D_M_tell_20 : decode m_M_tell.2.1 20 = .ok (.iconst 1, 1) := by decide +kernel
theorem D_M_tell_21 : decode m_M_tell.2.1 21 = .ok (.isub, 1) := by decide +kernel
theorem D_M_tell_22 : decode m_M_tell.2.1 22 = .ok (.invokestatic 52, 3) := by decide +kernel
theorem D_M_tell_25 : decode m_M_tell.2.1 25 = .ok (.ifCond .ne 6, 3) := by decide +kernel
theorem D_M_tell_28 : decode m_M_tell.2.1 28 = .ok (.bipush (-2), 2) := by decide +kernel
theorem D_M_tell_30 : decode m_M_tell.2.1 30 = .ok (.ireturn, 1) := by decide +kernel
theorem D_M_tell_31 : decode m_M_tell.2.1 31 = .ok (.aload_n 0, 1) := by decide +kernel
theorem D_M_tell_32 : decode m_M_tell.2.1 32 = .ok (.invokevirtual 60, 3) := by decide +kernel
theorem D_M_tell_35 : decode m_M_tell.2.1 35 = .ok (.aload_n 0, 1) := by decide +kernel
theorem D_M_tell_36 : decode m_M_tell.2.1 36 = .ok (.iload_n 1, 1) := by decide +kernel
theorem D_M_tell_37 : decode m_M_tell.2.1 37 = .ok (.iload_n 2, 1) := by decide +kernel
theorem D_M_tell_38 : decode m_M_tell.2.1 38 = .ok (.invokevirtual 67, 3) := by decide +kernel
theorem D_M_tell_41 : decode m_M_tell.2.1 41 = .ok (.istore 4, 2) := by decide +kernel
theorem D_M_tell_43 : decode m_M_tell.2.1 43 = .ok (.aload_n 0, 1) := by decide +kernel
theorem D_M_tell_44 : decode m_M_tell.2.1 44 = .ok (.getfield 7, 3) := by decide +kernel
theorem D_M_tell_47 : decode m_M_tell.2.1 47 = .ok (.bipush 6, 2) := by decide +kernel
theorem D_M_tell_49 : decode m_M_tell.2.1 49 = .ok (.iload_n 1, 1) := by decide +kernel
theorem D_M_tell_50 : decode m_M_tell.2.1 50 = .ok (.imul, 1) := by decide +kernel
theorem D_M_tell_51 : decode m_M_tell.2.1 51 = .ok (.iload_n 2, 1) := by decide +kernel
theorem D_M_tell_52 : decode m_M_tell.2.1 52 = .ok (.iadd, 1) := by decide +kernel
theorem D_M_tell_53 : decode m_M_tell.2.1 53 = .ok (.iload_n 3, 1) := by decide +kernel
theorem D_M_tell_54 : decode m_M_tell.2.1 54 = .ok (.iastore, 1) := by decide +kernel
theorem D_M_tell_55 : decode m_M_tell.2.1 55 = .ok (.iload 4, 2) := by decide +kernel
theorem D_M_tell_57 : decode m_M_tell.2.1 57 = .ok (.ireturn, 1) := by decide +kernel
theorem D_M_tellAll_0 : decode m_M_tellAll.2.1 0 = .ok (.aload_n 0, 1) := by decide +kernel
theorem D_M_tellAll_1 : decode m_M_tellAll.2.1 1 = .ok (.invokevirtual 85, 3) := by decide +kernel
theorem D_M_tellAll_4 : decode m_M_tellAll.2.1 4 = .ok (.aload_n 0, 1) := by decide +kernel
theorem D_M_tellAll_5 : decode m_M_tellAll.2.1 5 = .ok (.getfield 81, 3) := by decide +kernel
theorem D_M_tellAll_8 : decode m_M_tellAll.2.1 8 = .ok (.ifCond .ne 6, 3) := by decide +kernel
theorem D_M_tellAll_11 : decode m_M_tellAll.2.1 11 = .ok (.bipush (-5), 2) := by decide +kernel
theorem D_M_tellAll_13 : decode m_M_tellAll.2.1 13 = .ok (.ireturn, 1) := by decide +kernel
theorem D_M_tellAll_14 : decode m_M_tellAll.2.1 14 = .ok (.aload_n 0, 1) := by decide +kernel
theorem D_M_tellAll_15 : decode m_M_tellAll.2.1 15 = .ok (.invokevirtual 60, 3) := by decide +kernel
theorem D_M_tellAll_18 : decode m_M_tellAll.2.1 18 = .ok (.iconst 0, 1) := by decide +kernel
theorem D_M_tellAll_19 : decode m_M_tellAll.2.1 19 = .ok (.istore_n 1, 1) := by decide +kernel
theorem D_M_tellAll_20 : decode m_M_tellAll.2.1 20 = .ok (.iconst 0, 1) := by decide +kernel
theorem D_M_tellAll_21 : decode m_M_tellAll.2.1 21 = .ok (.istore_n 2, 1) := by decide +kernel
theorem D_M_tellAll_22 : decode m_M_tellAll.2.1 22 = .ok (.iload_n 2, 1) := by decide +kernel
theorem D_M_tellAll_23 : decode m_M_tellAll.2.1 23 = .ok (.aload_n 0, 1) := by decide +kernel
theorem D_M_tellAll_24 : decode m_M_tellAll.2.1 24 = .ok (.getfield 7, 3) := by decide +kernel
theorem D_M_tellAll_27 : decode m_M_tellAll.2.1 27 = .ok (.bipush 36, 2) := by decide +kernel
theorem D_M_tellAll_29 : decode m_M_tellAll.2.1 29 = .ok (.iaload, 1) := by decide +kernel
theorem D_M_tellAll_30 : decode m_M_tellAll.2.1 30 = .ok (.if_icmp .ge 82, 3) := by decide +kernel
theorem D_M_tellAll_33 : decode m_M_tellAll.2.1 33 = .ok (.iconst 0, 1) := by decide +kernel
theorem D_M_tellAll_34 : decode m_M_tellAll.2.1 34 = .ok (.istore_n 3, 1) := by decide +kernel
theorem D_M_tellAll_35 : decode m_M_tellAll.2.1 35 = .ok (.iload_n 3, 1) := by decide +kernel
theorem D_M_tellAll_36 : decode m_M_tellAll.2.1 36 = .ok (.aload_n 0, 1) := by decide +kernel
theorem D_M_tellAll_37 : decode m_M_tellAll.2.1 37 = .ok (.getfield 7, 3) := by decide +kernel
theorem D_M_tellAll_40 : decode m_M_tellAll.2.1 40 = .ok (.bipush 37, 2) := by decide +kernel
theorem D_M_tellAll_42 : decode m_M_tellAll.2.1 42 = .ok (.iaload, 1) := by decide +kernel
theorem D_M_tellAll_43 : decode m_M_tellAll.2.1 43 = .ok (.if_icmp .ge 63, 3) := by decide +kernel
theorem D_M_tellAll_46 : decode m_M_tellAll.2.1 46 = .ok (.aload_n 0, 1) := by decide +kernel
theorem D_M_tellAll_47 : decode m_M_tellAll.2.1 47 = .ok (.iload_n 2, 1) := by decide +kernel
theorem D_M_tellAll_48 : decode m_M_tellAll.2.1 48 = .ok (.iload_n 3, 1) := by decide +kernel
theorem D_M_tellAll_49 : decode m_M_tellAll.2.1 49 = .ok (.invokevirtual 67, 3) := by decide +kernel
theorem D_M_tellAll_52 : decode m_M_tellAll.2.1 52 = .ok (.ifCond .ne 48, 3) := by decide +kernel
theorem D_M_tellAll_55 : decode m_M_tellAll.2.1 55 = .ok (.aload_n 0, 1) := by decide +kernel
theorem D_M_tellAll_56 : decode m_M_tellAll.2.1 56 = .ok (.getfield 27, 3) := by decide +kernel
theorem D_M_tellAll_59 : decode m_M_tellAll.2.1 59 = .ok (.iload_n 2, 1) := by decide +kernel
theorem D_M_tellAll_60 : decode m_M_tellAll.2.1 60 = .ok (.iaload, 1) := by decide +kernel
theorem D_M_tellAll_61 : decode m_M_tellAll.2.1 61 = .ok (.aload_n 0, 1) := by decide +kernel
theorem D_M_tellAll_62 : decode m_M_tellAll.2.1 62 = .ok (.getfield 30, 3) := by decide +kernel
theorem D_M_tellAll_65 : decode m_M_tellAll.2.1 65 = .ok (.iload_n 3, 1) := by decide +kernel
theorem D_M_tellAll_66 : decode m_M_tellAll.2.1 66 = .ok (.iaload, 1) := by decide +kernel
theorem D_M_tellAll_67 : decode m_M_tellAll.2.1 67 = .ok (.if_icmp .ne 33, 3) := by decide +kernel
theorem D_M_tellAll_70 : decode m_M_tellAll.2.1 70 = .ok (.aload_n 0, 1) := by decide +kernel
theorem D_M_tellAll_71 : decode m_M_tellAll.2.1 71 = .ok (.getfield 7, 3) := by decide +kernel
theorem D_M_tellAll_74 : decode m_M_tellAll.2.1 74 = .ok (.bipush 6, 2) := by decide +kernel
theorem D_M_tellAll_76 : decode m_M_tellAll.2.1 76 = .ok (.iload_n 2, 1) := by decide +kernel
theorem D_M_tellAll_77 : decode m_M_tellAll.2.1 77 = .ok (.imul, 1) := by decide +kernel
theorem D_M_tellAll_78 : decode m_M_tellAll.2.1 78 = .ok (.iload_n 3, 1) := by decide +kernel
theorem D_M_tellAll_79 : decode m_M_tellAll.2.1 79 = .ok (.iadd, 1) := by decide +kernel
theorem D_M_tellAll_80 : decode m_M_tellAll.2.1 80 = .ok (.aload_n 0, 1) := by decide +kernel
theorem D_M_tellAll_81 : decode m_M_tellAll.2.1 81 = .ok (.aload_n 0, 1) := by decide +kernel
theorem D_M_tellAll_82 : decode m_M_tellAll.2.1 82 = .ok (.getfield 33, 3) := by decide +kernel
theorem D_M_tellAll_85 : decode m_M_tellAll.2.1 85 = .ok (.iload_n 2, 1) := by decide +kernel
theorem D_M_tellAll_86 : decode m_M_tellAll.2.1 86 = .ok (.iaload, 1) := by decide +kernel
theorem D_M_tellAll_87 : decode m_M_tellAll.2.1 87 = .ok (.aload_n 0, 1) := by decide +kernel
theorem D_M_tellAll_88 : decode m_M_tellAll.2.1 88 = .ok (.getfield 36, 3) := by decide +kernel
theorem D_M_tellAll_91 : decode m_M_tellAll.2.1 91 = .ok (.iload_n 3, 1) := by decide +kernel
theorem D_M_tellAll_92 : decode m_M_tellAll.2.1 92 = .ok (.iaload, 1) := by decide +kernel
theorem D_M_tellAll_93 : decode m_M_tellAll.2.1 93 = .ok (.invokevirtual 63, 3) := by decide +kernel
theorem D_M_tellAll_96 : decode m_M_tellAll.2.1 96 = .ok (.iastore, 1) := by decide +kernel
theorem D_M_tellAll_97 : decode m_M_tellAll.2.1 97 = .ok (.iinc 1 1, 3) := by decide +kernel
theorem D_M_tellAll_100 : decode m_M_tellAll.2.1 100 = .ok (.iinc 3 1, 3) := by decide +kernel
theorem D_M_tellAll_103 : decode m_M_tellAll.2.1 103 = .ok (.goto (-68), 3) := by decide +kernel
theorem D_M_tellAll_106 : decode m_M_tellAll.2.1 106 = .ok (.iinc 2 1, 3) := by decide +kernel
theorem D_M_tellAll_109 : decode m_M_tellAll.2.1 109 = .ok (.goto (-87), 3) := by decide +kernel
theorem D_M_tellAll_112 : decode m_M_tellAll.2.1 112 = .ok (.iload_n 1, 1) := by decide +kernel
theorem D_M_tellAll_113 : decode m_M_tellAll.2.1 113 = .ok (.ireturn, 1) := by decide +kernel
theorem D_M_follows_0 : decode m_M_follows.2.1 0 = .ok (.aload_n 0, 1) := by decide +kernel
theorem D_M_follows_1 : decode m_M_follows.2.1 1 = .ok (.invokevirtual 85, 3) := by decide +kernel
theorem D_M_follows_4 : decode m_M_follows.2.1 4 = .ok (.aload_n 0, 1) := by decide +kernel
theorem D_M_follows_5 : decode m_M_follows.2.1 5 = .ok (.getfield 81, 3) := by decide +kernel
theorem D_M_follows_8 : decode m_M_follows.2.1 8 = .ok (.ifCond .eq 37, 3) := by decide +kernel
theorem D_M_follows_11 : decode m_M_follows.2.1 11 = .ok (.aload_n 0, 1) := by decide +kernel
theorem D_M_follows_12 : decode m_M_follows.2.1 12 = .ok (.getfield 27, 3) := by decide +kernel
theorem D_M_follows_15 : decode m_M_follows.2.1 15 = .ok (.iload_n 1, 1) := by decide +kernel
theorem D_M_follows_16 : decode m_M_follows.2.1 16 = .ok (.iaload, 1) := by decide +kernel
theorem D_M_follows_17 : decode m_M_follows.2.1 17 = .ok (.aload_n 0, 1) := by decide +kernel
theorem D_M_follows_18 : decode m_M_follows.2.1 18 = .ok (.getfield 30, 3) := by decide +kernel
theorem D_M_follows_21 : decode m_M_follows.2.1 21 = .ok (.iload_n 2, 1) := by decide +kernel
theorem D_M_follows_22 : decode m_M_follows.2.1 22 = .ok (.iaload, 1) := by decide +kernel
theorem D_M_follows_23 : decode m_M_follows.2.1 23 = .ok (.if_icmp .ne 22, 3) := by decide +kernel
theorem D_M_follows_26 : decode m_M_follows.2.1 26 = .ok (.aload_n 0, 1) := by decide +kernel
theorem D_M_follows_27 : decode m_M_follows.2.1 27 = .ok (.aload_n 0, 1) := by decide +kernel
theorem D_M_follows_28 : decode m_M_follows.2.1 28 = .ok (.getfield 33, 3) := by decide +kernel
theorem D_M_follows_31 : decode m_M_follows.2.1 31 = .ok (.iload_n 1, 1) := by decide +kernel
theorem D_M_follows_32 : decode m_M_follows.2.1 32 = .ok (.iaload, 1) := by decide +kernel
theorem D_M_follows_33 : decode m_M_follows.2.1 33 = .ok (.aload_n 0, 1) := by decide +kernel
theorem D_M_follows_34 : decode m_M_follows.2.1 34 = .ok (.getfield 36, 3) := by decide +kernel
theorem D_M_follows_37 : decode m_M_follows.2.1 37 = .ok (.iload_n 2, 1) := by decide +kernel
theorem D_M_follows_38 : decode m_M_follows.2.1 38 = .ok (.iaload, 1) := by decide +kernel
theorem D_M_follows_39 : decode m_M_follows.2.1 39 = .ok (.invokevirtual 63, 3) := by decide +kernel
theorem D_M_follows_42 : decode m_M_follows.2.1 42 = .ok (.goto 5, 3) := by decide +kernel
theorem D_M_follows_45 : decode m_M_follows.2.1 45 = .ok (.bipush (-6), 2) := by decide +kernel
theorem D_M_follows_47 : decode m_M_follows.2.1 47 = .ok (.ireturn, 1) := by decide +kernel
theorem D_M_followsWithout_0 : decode m_M_followsWithout.2.1 0 = .ok (.aload_n 0, 1) := by decide +kernel
theorem D_M_followsWithout_1 : decode m_M_followsWithout.2.1 1 = .ok (.iload_n 1, 1) := by decide +kernel
theorem D_M_followsWithout_2 : decode m_M_followsWithout.2.1 2 = .ok (.iload_n 2, 1) := by decide +kernel
theorem D_M_followsWithout_3 : decode m_M_followsWithout.2.1 3 = .ok (.invokevirtual 67, 3) := by decide +kernel
theorem D_M_followsWithout_6 : decode m_M_followsWithout.2.1 6 = .ok (.istore_n 3, 1) := by decide +kernel
theorem D_M_followsWithout_7 : decode m_M_followsWithout.2.1 7 = .ok (.aload_n 0, 1) := by decide +kernel
theorem D_M_followsWithout_8 : decode m_M_followsWithout.2.1 8 = .ok (.getfield 7, 3) := by decide +kernel
theorem D_M_followsWithout_11 : decode m_M_followsWithout.2.1 11 = .ok (.bipush 6, 2) := by decide +kernel
theorem D_M_followsWithout_13 : decode m_M_followsWithout.2.1 13 = .ok (.iload_n 1, 1) := by decide +kernel
theorem D_M_followsWithout_14 : decode m_M_followsWithout.2.1 14 = .ok (.imul, 1) := by decide +kernel
theorem D_M_followsWithout_15 : decode m_M_followsWithout.2.1 15 = .ok (.iload_n 2, 1) := by decide +kernel
theorem D_M_followsWithout_16 : decode m_M_followsWithout.2.1 16 = .ok (.iadd, 1) := by decide +kernel
theorem D_M_followsWithout_17 : decode m_M_followsWithout.2.1 17 = .ok (.iconst 0, 1) := by decide +kernel
theorem D_M_followsWithout_18 : decode m_M_followsWithout.2.1 18 = .ok (.iastore, 1) := by decide +kernel
theorem D_M_followsWithout_19 : decode m_M_followsWithout.2.1 19 = .ok (.aload_n 0, 1) := by decide +kernel
theorem D_M_followsWithout_20 : decode m_M_followsWithout.2.1 20 = .ok (.iload_n 1, 1) := by decide +kernel
theorem D_M_followsWithout_21 : decode m_M_followsWithout.2.1 21 = .ok (.iload_n 2, 1) := by decide +kernel
theorem D_M_followsWithout_22 : decode m_M_followsWithout.2.1 22 = .ok (.invokevirtual 92, 3) := by decide +kernel
theorem D_M_followsWithout_25 : decode m_M_followsWithout.2.1 25 = .ok (.istore 4, 2) := by decide +kernel
theorem D_M_followsWithout_27 : decode m_M_followsWithout.2.1 27 = .ok (.aload_n 0, 1) := by decide +kernel
theorem D_M_followsWithout_28 : decode m_M_followsWithout.2.1 28 = .ok (.getfield 7, 3) := by decide +kernel
theorem D_M_followsWithout_31 : decode m_M_followsWithout.2.1 31 = .ok (.bipush 6, 2) := by decide +kernel
theorem D_M_followsWithout_33 : decode m_M_followsWithout.2.1 33 = .ok (.iload_n 1, 1) := by decide +kernel
theorem D_M_followsWithout_34 : decode m_M_followsWithout.2.1 34 = .ok (.imul, 1) := by decide +kernel
theorem D_M_followsWithout_35 : decode m_M_followsWithout.2.1 35 = .ok (.iload_n 2, 1) := by decide +kernel
theorem D_M_followsWithout_36 : decode m_M_followsWithout.2.1 36 = .ok (.iadd, 1) := by decide +kernel
theorem D_M_followsWithout_37 : decode m_M_followsWithout.2.1 37 = .ok (.iload_n 3, 1) := by decide +kernel
theorem D_M_followsWithout_38 : decode m_M_followsWithout.2.1 38 = .ok (.iastore, 1) := by decide +kernel
theorem D_M_followsWithout_39 : decode m_M_followsWithout.2.1 39 = .ok (.iload 4, 2) := by decide +kernel
theorem D_M_followsWithout_41 : decode m_M_followsWithout.2.1 41 = .ok (.ireturn, 1) := by decide +kernel
theorem D_M_minorsWith_0 : decode m_M_minorsWith.2.1 0 = .ok (.iconst 0, 1) := by decide +kernel
theorem D_M_minorsWith_1 : decode m_M_minorsWith.2.1 1 = .ok (.istore_n 3, 1) := by decide +kernel
theorem D_M_minorsWith_2 : decode m_M_minorsWith.2.1 2 = .ok (.iconst 0, 1) := by decide +kernel
theorem D_M_minorsWith_3 : decode m_M_minorsWith.2.1 3 = .ok (.istore 4, 2) := by decide +kernel
theorem D_M_minorsWith_5 : decode m_M_minorsWith.2.1 5 = .ok (.iload 4, 2) := by decide +kernel
theorem D_M_minorsWith_7 : decode m_M_minorsWith.2.1 7 = .ok (.aload_n 0, 1) := by decide +kernel
theorem D_M_minorsWith_8 : decode m_M_minorsWith.2.1 8 = .ok (.getfield 7, 3) := by decide +kernel
theorem D_M_minorsWith_11 : decode m_M_minorsWith.2.1 11 = .ok (.bipush 36, 2) := by decide +kernel
theorem D_M_minorsWith_13 : decode m_M_minorsWith.2.1 13 = .ok (.iaload, 1) := by decide +kernel
theorem D_M_minorsWith_14 : decode m_M_minorsWith.2.1 14 = .ok (.if_icmp .ge 90, 3) := by decide +kernel
theorem D_M_minorsWith_17 : decode m_M_minorsWith.2.1 17 = .ok (.iconst 0, 1) := by decide +kernel
theorem D_M_minorsWith_18 : decode m_M_minorsWith.2.1 18 = .ok (.istore 5, 2) := by decide +kernel
theorem D_M_minorsWith_20 : decode m_M_minorsWith.2.1 20 = .ok (.iload 5, 2) := by decide +kernel
theorem D_M_minorsWith_22 : decode m_M_minorsWith.2.1 22 = .ok (.aload_n 0, 1) := by decide +kernel
theorem D_M_minorsWith_23 : decode m_M_minorsWith.2.1 23 = .ok (.getfield 7, 3) := by decide +kernel
theorem D_M_minorsWith_26 : decode m_M_minorsWith.2.1 26 = .ok (.bipush 37, 2) := by decide +kernel
theorem D_M_minorsWith_28 : decode m_M_minorsWith.2.1 28 = .ok (.iaload, 1) := by decide +kernel
theorem D_M_minorsWith_29 : decode m_M_minorsWith.2.1 29 = .ok (.if_icmp .ge 69, 3) := by decide +kernel
theorem D_M_minorsWith_32 : decode m_M_minorsWith.2.1 32 = .ok (.iload_n 3, 1) := by decide +kernel
theorem D_M_minorsWith_33 : decode m_M_minorsWith.2.1 33 = .ok (.iload 4, 2) := by decide +kernel
theorem D_M_minorsWith_35 : decode m_M_minorsWith.2.1 35 = .ok (.iload_n 1, 1) := by decide +kernel
theorem D_M_minorsWith_36 : decode m_M_minorsWith.2.1 36 = .ok (.if_icmp .eq 53, 3) := by decide +kernel
theorem D_M_minorsWith_39 : decode m_M_minorsWith.2.1 39 = .ok (.iload 5, 2) := by decide +kernel
theorem D_M_minorsWith_41 : decode m_M_minorsWith.2.1 41 = .ok (.iload_n 2, 1) := by decide +kernel
theorem D_M_minorsWith_42 : decode m_M_minorsWith.2.1 42 = .ok (.if_icmp .eq 47, 3) := by decide +kernel
theorem D_M_minorsWith_45 : decode m_M_minorsWith.2.1 45 = .ok (.aload_n 0, 1) := by decide +kernel
theorem D_M_minorsWith_46 : decode m_M_minorsWith.2.1 46 = .ok (.iload_n 1, 1) := by decide +kernel
theorem D_M_minorsWith_47 : decode m_M_minorsWith.2.1 47 = .ok (.iload_n 2, 1) := by decide +kernel
theorem D_M_minorsWith_48 : decode m_M_minorsWith.2.1 48 = .ok (.invokevirtual 67, 3) := by decide +kernel
theorem D_M_minorsWith_51 : decode m_M_minorsWith.2.1 51 = .ok (.ifCond .le 38, 3) := by decide +kernel
theorem D_M_minorsWith_54 : decode m_M_minorsWith.2.1 54 = .ok (.aload_n 0, 1) := by decide +kernel
theorem D_M_minorsWith_55 : decode m_M_minorsWith.2.1 55 = .ok (.iload 4, 2) := by decide +kernel
theorem D_M_minorsWith_57 : decode m_M_minorsWith.2.1 57 = .ok (.iload_n 2, 1) := by decide +kernel
theorem D_M_minorsWith_58 : decode m_M_minorsWith.2.1 58 = .ok (.invokevirtual 67, 3) := by decide +kernel
theorem D_M_minorsWith_61 : decode m_M_minorsWith.2.1 61 = .ok (.ifCond .le 28, 3) := by decide +kernel
theorem D_M_minorsWith_64 : decode m_M_minorsWith.2.1 64 = .ok (.aload_n 0, 1) := by decide +kernel
theorem D_M_minorsWith_65 : decode m_M_minorsWith.2.1 65 = .ok (.iload_n 1, 1) := by decide +kernel
theorem D_M_minorsWith_66 : decode m_M_minorsWith.2.1 66 = .ok (.iload 5, 2) := by decide +kernel
theorem D_M_minorsWith_68 : decode m_M_minorsWith.2.1 68 = .ok (.invokevirtual 67, 3) := by decide +kernel
theorem D_M_minorsWith_71 : decode m_M_minorsWith.2.1 71 = .ok (.ifCond .le 18, 3) := by decide +kernel
theorem D_M_minorsWith_74 : decode m_M_minorsWith.2.1 74 = .ok (.aload_n 0, 1) := by decide +kernel
theorem D_M_minorsWith_75 : decode m_M_minorsWith.2.1 75 = .ok (.iload 4, 2) := by decide +kernel
theorem D_M_minorsWith_77 : decode m_M_minorsWith.2.1 77 = .ok (.iload 5, 2) := by decide +kernel
theorem D_M_minorsWith_79 : decode m_M_minorsWith.2.1 79 = .ok (.invokevirtual 67, 3) := by decide +kernel
theorem D_M_minorsWith_82 : decode m_M_minorsWith.2.1 82 = .ok (.ifCond .le 7, 3) := by decide +kernel
theorem D_M_minorsWith_85 : decode m_M_minorsWith.2.1 85 = .ok (.iconst 1, 1) := by decide +kernel
theorem D_M_minorsWith_86 : decode m_M_minorsWith.2.1 86 = .ok (.goto 4, 3) := by decide +kernel
theorem D_M_minorsWith_89 : decode m_M_minorsWith.2.1 89 = .ok (.iconst 0, 1) := by decide +kernel
theorem D_M_minorsWith_90 : decode m_M_minorsWith.2.1 90 = .ok (.iadd, 1) := by decide +kernel
theorem D_M_minorsWith_91 : decode m_M_minorsWith.2.1 91 = .ok (.istore_n 3, 1) := by decide +kernel
theorem D_M_minorsWith_92 : decode m_M_minorsWith.2.1 92 = .ok (.iinc 5 1, 3) := by decide +kernel
theorem D_M_minorsWith_95 : decode m_M_minorsWith.2.1 95 = .ok (.goto (-75), 3) := by decide +kernel
theorem D_M_minorsWith_98 : decode m_M_minorsWith.2.1 98 = .ok (.iinc 4 1, 3) := by decide +kernel
theorem D_M_minorsWith_101 : decode m_M_minorsWith.2.1 101 = .ok (.goto (-96), 3) := by decide +kernel
theorem D_M_minorsWith_104 : decode m_M_minorsWith.2.1 104 = .ok (.iload_n 3, 1) := by decide +kernel
theorem D_M_minorsWith_105 : decode m_M_minorsWith.2.1 105 = .ok (.ireturn, 1) := by decide +kernel
theorem D_M_entry_0 : decode m_M_entry.2.1 0 = .ok (.aload_n 0, 1) := by decide +kernel
theorem D_M_entry_1 : decode m_M_entry.2.1 1 = .ok (.iload_n 1, 1) := by decide +kernel
theorem D_M_entry_2 : decode m_M_entry.2.1 2 = .ok (.iload_n 2, 1) := by decide +kernel
theorem D_M_entry_3 : decode m_M_entry.2.1 3 = .ok (.invokevirtual 88, 3) := by decide +kernel
theorem D_M_entry_6 : decode m_M_entry.2.1 6 = .ok (.ifCond .ne 5, 3) := by decide +kernel
theorem D_M_entry_9 : decode m_M_entry.2.1 9 = .ok (.iconst (-1), 1) := by decide +kernel
theorem D_M_entry_10 : decode m_M_entry.2.1 10 = .ok (.ireturn, 1) := by decide +kernel
theorem D_M_entry_11 : decode m_M_entry.2.1 11 = .ok (.iload_n 3, 1) := by decide +kernel
theorem D_M_entry_12 : decode m_M_entry.2.1 12 = .ok (.tableswitch 60 0 3 #[32, 39, 46, 53], 32) := by decide +kernel
theorem D_M_entry_44 : decode m_M_entry.2.1 44 = .ok (.aload_n 0, 1) := by decide +kernel
theorem D_M_entry_45 : decode m_M_entry.2.1 45 = .ok (.iload_n 1, 1) := by decide +kernel
theorem D_M_entry_46 : decode m_M_entry.2.1 46 = .ok (.iload_n 2, 1) := by decide +kernel
theorem D_M_entry_47 : decode m_M_entry.2.1 47 = .ok (.invokevirtual 67, 3) := by decide +kernel
theorem D_M_entry_50 : decode m_M_entry.2.1 50 = .ok (.ireturn, 1) := by decide +kernel
theorem D_M_entry_51 : decode m_M_entry.2.1 51 = .ok (.aload_n 0, 1) := by decide +kernel
theorem D_M_entry_52 : decode m_M_entry.2.1 52 = .ok (.iload_n 1, 1) := by decide +kernel
theorem D_M_entry_53 : decode m_M_entry.2.1 53 = .ok (.iload_n 2, 1) := by decide +kernel
theorem D_M_entry_54 : decode m_M_entry.2.1 54 = .ok (.invokevirtual 92, 3) := by decide +kernel
theorem D_M_entry_57 : decode m_M_entry.2.1 57 = .ok (.ireturn, 1) := by decide +kernel
theorem D_M_entry_58 : decode m_M_entry.2.1 58 = .ok (.aload_n 0, 1) := by decide +kernel
theorem D_M_entry_59 : decode m_M_entry.2.1 59 = .ok (.iload_n 1, 1) := by decide +kernel
theorem D_M_entry_60 : decode m_M_entry.2.1 60 = .ok (.iload_n 2, 1) := by decide +kernel
theorem D_M_entry_61 : decode m_M_entry.2.1 61 = .ok (.invokevirtual 95, 3) := by decide +kernel
theorem D_M_entry_64 : decode m_M_entry.2.1 64 = .ok (.ireturn, 1) := by decide +kernel
theorem D_M_entry_65 : decode m_M_entry.2.1 65 = .ok (.aload_n 0, 1) := by decide +kernel
theorem D_M_entry_66 : decode m_M_entry.2.1 66 = .ok (.iload_n 1, 1) := by decide +kernel
theorem D_M_entry_67 : decode m_M_entry.2.1 67 = .ok (.iload_n 2, 1) := by decide +kernel
theorem D_M_entry_68 : decode m_M_entry.2.1 68 = .ok (.invokevirtual 98, 3) := by decide +kernel
theorem D_M_entry_71 : decode m_M_entry.2.1 71 = .ok (.ireturn, 1) := by decide +kernel
theorem D_M_entry_72 : decode m_M_entry.2.1 72 = .ok (.bipush (-2), 2) := by decide +kernel
theorem D_M_entry_74 : decode m_M_entry.2.1 74 = .ok (.ireturn, 1) := by decide +kernel
theorem D_M_rowsOf_0 : decode m_M_rowsOf.2.1 0 = .ok (.iconst 0, 1) := by decide +kernel
theorem D_M_rowsOf_1 : decode m_M_rowsOf.2.1 1 = .ok (.istore_n 2, 1) := by decide +kernel
theorem D_M_rowsOf_2 : decode m_M_rowsOf.2.1 2 = .ok (.iconst 0, 1) := by decide +kernel
theorem D_M_rowsOf_3 : decode m_M_rowsOf.2.1 3 = .ok (.istore_n 3, 1) := by decide +kernel
theorem D_M_rowsOf_4 : decode m_M_rowsOf.2.1 4 = .ok (.iload_n 3, 1) := by decide +kernel
theorem D_M_rowsOf_5 : decode m_M_rowsOf.2.1 5 = .ok (.aload_n 0, 1) := by decide +kernel
theorem D_M_rowsOf_6 : decode m_M_rowsOf.2.1 6 = .ok (.getfield 7, 3) := by decide +kernel
theorem D_M_rowsOf_9 : decode m_M_rowsOf.2.1 9 = .ok (.bipush 36, 2) := by decide +kernel
theorem D_M_rowsOf_11 : decode m_M_rowsOf.2.1 11 = .ok (.iaload, 1) := by decide +kernel
theorem D_M_rowsOf_12 : decode m_M_rowsOf.2.1 12 = .ok (.if_icmp .ge 29, 3) := by decide +kernel
theorem D_M_rowsOf_15 : decode m_M_rowsOf.2.1 15 = .ok (.iload_n 2, 1) := by decide +kernel
theorem D_M_rowsOf_16 : decode m_M_rowsOf.2.1 16 = .ok (.aload_n 0, 1) := by decide +kernel
theorem D_M_rowsOf_17 : decode m_M_rowsOf.2.1 17 = .ok (.getfield 27, 3) := by decide +kernel
theorem D_M_rowsOf_20 : decode m_M_rowsOf.2.1 20 = .ok (.iload_n 3, 1) := by decide +kernel
theorem D_M_rowsOf_21 : decode m_M_rowsOf.2.1 21 = .ok (.iaload, 1) := by decide +kernel
theorem D_M_rowsOf_22 : decode m_M_rowsOf.2.1 22 = .ok (.iload_n 1, 1) := by decide +kernel
theorem D_M_rowsOf_23 : decode m_M_rowsOf.2.1 23 = .ok (.if_icmp .ne 9, 3) := by decide +kernel
theorem D_M_rowsOf_26 : decode m_M_rowsOf.2.1 26 = .ok (.iconst 1, 1) := by decide +kernel
theorem D_M_rowsOf_27 : decode m_M_rowsOf.2.1 27 = .ok (.iload_n 3, 1) := by decide +kernel
theorem D_M_rowsOf_28 : decode m_M_rowsOf.2.1 28 = .ok (.ishl, 1) := by decide +kernel
theorem D_M_rowsOf_29 : decode m_M_rowsOf.2.1 29 = .ok (.goto 4, 3) := by decide +kernel
theorem D_M_rowsOf_32 : decode m_M_rowsOf.2.1 32 = .ok (.iconst 0, 1) := by decide +kernel
theorem D_M_rowsOf_33 : decode m_M_rowsOf.2.1 33 = .ok (.ior, 1) := by decide +kernel
theorem D_M_rowsOf_34 : decode m_M_rowsOf.2.1 34 = .ok (.istore_n 2, 1) := by decide +kernel
theorem D_M_rowsOf_35 : decode m_M_rowsOf.2.1 35 = .ok (.iinc 3 1, 3) := by decide +kernel
theorem D_M_rowsOf_38 : decode m_M_rowsOf.2.1 38 = .ok (.goto (-34), 3) := by decide +kernel
theorem D_M_rowsOf_41 : decode m_M_rowsOf.2.1 41 = .ok (.iload_n 2, 1) := by decide +kernel
theorem D_M_rowsOf_42 : decode m_M_rowsOf.2.1 42 = .ok (.ireturn, 1) := by decide +kernel
theorem D_M_columnsOf_0 : decode m_M_columnsOf.2.1 0 = .ok (.iconst 0, 1) := by decide +kernel
theorem D_M_columnsOf_1 : decode m_M_columnsOf.2.1 1 = .ok (.istore_n 2, 1) := by decide +kernel
theorem D_M_columnsOf_2 : decode m_M_columnsOf.2.1 2 = .ok (.iconst 0, 1) := by decide +kernel
theorem D_M_columnsOf_3 : decode m_M_columnsOf.2.1 3 = .ok (.istore_n 3, 1) := by decide +kernel
theorem D_M_columnsOf_4 : decode m_M_columnsOf.2.1 4 = .ok (.iload_n 3, 1) := by decide +kernel
theorem D_M_columnsOf_5 : decode m_M_columnsOf.2.1 5 = .ok (.aload_n 0, 1) := by decide +kernel
theorem D_M_columnsOf_6 : decode m_M_columnsOf.2.1 6 = .ok (.getfield 7, 3) := by decide +kernel
theorem D_M_columnsOf_9 : decode m_M_columnsOf.2.1 9 = .ok (.bipush 37, 2) := by decide +kernel
theorem D_M_columnsOf_11 : decode m_M_columnsOf.2.1 11 = .ok (.iaload, 1) := by decide +kernel
theorem D_M_columnsOf_12 : decode m_M_columnsOf.2.1 12 = .ok (.if_icmp .ge 29, 3) := by decide +kernel
theorem D_M_columnsOf_15 : decode m_M_columnsOf.2.1 15 = .ok (.iload_n 2, 1) := by decide +kernel
theorem D_M_columnsOf_16 : decode m_M_columnsOf.2.1 16 = .ok (.aload_n 0, 1) := by decide +kernel
theorem D_M_columnsOf_17 : decode m_M_columnsOf.2.1 17 = .ok (.getfield 30, 3) := by decide +kernel
theorem D_M_columnsOf_20 : decode m_M_columnsOf.2.1 20 = .ok (.iload_n 3, 1) := by decide +kernel
theorem D_M_columnsOf_21 : decode m_M_columnsOf.2.1 21 = .ok (.iaload, 1) := by decide +kernel
theorem D_M_columnsOf_22 : decode m_M_columnsOf.2.1 22 = .ok (.iload_n 1, 1) := by decide +kernel
theorem D_M_columnsOf_23 : decode m_M_columnsOf.2.1 23 = .ok (.if_icmp .ne 9, 3) := by decide +kernel
theorem D_M_columnsOf_26 : decode m_M_columnsOf.2.1 26 = .ok (.iconst 1, 1) := by decide +kernel
theorem D_M_columnsOf_27 : decode m_M_columnsOf.2.1 27 = .ok (.iload_n 3, 1) := by decide +kernel
theorem D_M_columnsOf_28 : decode m_M_columnsOf.2.1 28 = .ok (.ishl, 1) := by decide +kernel
theorem D_M_columnsOf_29 : decode m_M_columnsOf.2.1 29 = .ok (.goto 4, 3) := by decide +kernel
theorem D_M_columnsOf_32 : decode m_M_columnsOf.2.1 32 = .ok (.iconst 0, 1) := by decide +kernel
theorem D_M_columnsOf_33 : decode m_M_columnsOf.2.1 33 = .ok (.ior, 1) := by decide +kernel
theorem D_M_columnsOf_34 : decode m_M_columnsOf.2.1 34 = .ok (.istore_n 2, 1) := by decide +kernel
theorem D_M_columnsOf_35 : decode m_M_columnsOf.2.1 35 = .ok (.iinc 3 1, 3) := by decide +kernel
theorem D_M_columnsOf_38 : decode m_M_columnsOf.2.1 38 = .ok (.goto (-34), 3) := by decide +kernel
theorem D_M_columnsOf_41 : decode m_M_columnsOf.2.1 41 = .ok (.iload_n 2, 1) := by decide +kernel
theorem D_M_columnsOf_42 : decode m_M_columnsOf.2.1 42 = .ok (.ireturn, 1) := by decide +kernel
theorem D_M_toldIn_0 : decode m_M_toldIn.2.1 0 = .ok (.iconst 0, 1) := by decide +kernel
theorem D_M_toldIn_1 : decode m_M_toldIn.2.1 1 = .ok (.istore_n 2, 1) := by decide +kernel
theorem D_M_toldIn_2 : decode m_M_toldIn.2.1 2 = .ok (.iconst 0, 1) := by decide +kernel
theorem D_M_toldIn_3 : decode m_M_toldIn.2.1 3 = .ok (.istore_n 3, 1) := by decide +kernel
theorem D_M_toldIn_4 : decode m_M_toldIn.2.1 4 = .ok (.iload_n 3, 1) := by decide +kernel
theorem D_M_toldIn_5 : decode m_M_toldIn.2.1 5 = .ok (.aload_n 0, 1) := by decide +kernel
theorem D_M_toldIn_6 : decode m_M_toldIn.2.1 6 = .ok (.getfield 7, 3) := by decide +kernel
theorem D_M_toldIn_9 : decode m_M_toldIn.2.1 9 = .ok (.bipush 36, 2) := by decide +kernel
theorem D_M_toldIn_11 : decode m_M_toldIn.2.1 11 = .ok (.iaload, 1) := by decide +kernel
theorem D_M_toldIn_12 : decode m_M_toldIn.2.1 12 = .ok (.if_icmp .ge 58, 3) := by decide +kernel
theorem D_M_toldIn_15 : decode m_M_toldIn.2.1 15 = .ok (.iconst 0, 1) := by decide +kernel
theorem D_M_toldIn_16 : decode m_M_toldIn.2.1 16 = .ok (.istore 4, 2) := by decide +kernel
theorem D_M_toldIn_18 : decode m_M_toldIn.2.1 18 = .ok (.iload 4, 2) := by decide +kernel
theorem D_M_toldIn_20 : decode m_M_toldIn.2.1 20 = .ok (.aload_n 0, 1) := by decide +kernel
theorem D_M_toldIn_21 : decode m_M_toldIn.2.1 21 = .ok (.getfield 7, 3) := by decide +kernel
theorem D_M_toldIn_24 : decode m_M_toldIn.2.1 24 = .ok (.bipush 37, 2) := by decide +kernel
theorem D_M_toldIn_26 : decode m_M_toldIn.2.1 26 = .ok (.iaload, 1) := by decide +kernel
theorem D_M_toldIn_27 : decode m_M_toldIn.2.1 27 = .ok (.if_icmp .ge 37, 3) := by decide +kernel
theorem D_M_toldIn_30 : decode m_M_toldIn.2.1 30 = .ok (.iload_n 2, 1) := by decide +kernel
theorem D_M_toldIn_31 : decode m_M_toldIn.2.1 31 = .ok (.aload_n 0, 1) := by decide +kernel
theorem D_M_toldIn_32 : decode m_M_toldIn.2.1 32 = .ok (.iload_n 3, 1) := by decide +kernel
theorem D_M_toldIn_33 : decode m_M_toldIn.2.1 33 = .ok (.iload 4, 2) := by decide +kernel
theorem D_M_toldIn_35 : decode m_M_toldIn.2.1 35 = .ok (.invokevirtual 67, 3) := by decide +kernel
theorem D_M_toldIn_38 : decode m_M_toldIn.2.1 38 = .ok (.ifCond .le 17, 3) := by decide +kernel
theorem D_M_toldIn_41 : decode m_M_toldIn.2.1 41 = .ok (.aload_n 0, 1) := by decide +kernel
theorem D_M_toldIn_42 : decode m_M_toldIn.2.1 42 = .ok (.getfield 27, 3) := by decide +kernel
theorem D_M_toldIn_45 : decode m_M_toldIn.2.1 45 = .ok (.iload_n 3, 1) := by decide +kernel
theorem D_M_toldIn_46 : decode m_M_toldIn.2.1 46 = .ok (.iaload, 1) := by decide +kernel
theorem D_M_toldIn_47 : decode m_M_toldIn.2.1 47 = .ok (.iload_n 1, 1) := by decide +kernel
theorem D_M_toldIn_48 : decode m_M_toldIn.2.1 48 = .ok (.if_icmp .ne 7, 3) := by decide +kernel
theorem D_M_toldIn_51 : decode m_M_toldIn.2.1 51 = .ok (.iconst 1, 1) := by decide +kernel
theorem D_M_toldIn_52 : decode m_M_toldIn.2.1 52 = .ok (.goto 4, 3) := by decide +kernel
theorem D_M_toldIn_55 : decode m_M_toldIn.2.1 55 = .ok (.iconst 0, 1) := by decide +kernel
theorem D_M_toldIn_56 : decode m_M_toldIn.2.1 56 = .ok (.iadd, 1) := by decide +kernel
theorem D_M_toldIn_57 : decode m_M_toldIn.2.1 57 = .ok (.istore_n 2, 1) := by decide +kernel
theorem D_M_toldIn_58 : decode m_M_toldIn.2.1 58 = .ok (.iinc 4 1, 3) := by decide +kernel
theorem D_M_toldIn_61 : decode m_M_toldIn.2.1 61 = .ok (.goto (-43), 3) := by decide +kernel
theorem D_M_toldIn_64 : decode m_M_toldIn.2.1 64 = .ok (.iinc 3 1, 3) := by decide +kernel
theorem D_M_toldIn_67 : decode m_M_toldIn.2.1 67 = .ok (.goto (-63), 3) := by decide +kernel
theorem D_M_toldIn_70 : decode m_M_toldIn.2.1 70 = .ok (.iload_n 2, 1) := by decide +kernel
theorem D_M_toldIn_71 : decode m_M_toldIn.2.1 71 = .ok (.ireturn, 1) := by decide +kernel
theorem D_M_part_0 : decode m_M_part.2.1 0 = .ok (.aload_n 0, 1) := by decide +kernel
theorem D_M_part_1 : decode m_M_part.2.1 1 = .ok (.invokevirtual 85, 3) := by decide +kernel
theorem D_M_part_4 : decode m_M_part.2.1 4 = .ok (.iload_n 1, 1) := by decide +kernel
theorem D_M_part_5 : decode m_M_part.2.1 5 = .ok (.ifCond .lt 11, 3) := by decide +kernel
theorem D_M_part_8 : decode m_M_part.2.1 8 = .ok (.iload_n 1, 1) := by decide +kernel
theorem D_M_part_9 : decode m_M_part.2.1 9 = .ok (.aload_n 0, 1) := by decide +kernel
theorem D_M_part_10 : decode m_M_part.2.1 10 = .ok (.getfield 74, 3) := by decide +kernel
theorem D_M_part_13 : decode m_M_part.2.1 13 = .ok (.if_icmp .lt 5, 3) := by decide +kernel
theorem D_M_part_16 : decode m_M_part.2.1 16 = .ok (.iconst (-1), 1) := by decide +kernel
theorem D_M_part_17 : decode m_M_part.2.1 17 = .ok (.ireturn, 1) := by decide +kernel
theorem D_M_part_18 : decode m_M_part.2.1 18 = .ok (.iload_n 2, 1) := by decide +kernel
theorem D_M_part_19 : decode m_M_part.2.1 19 = .ok (.iconst 0, 1) := by decide +kernel
theorem D_M_part_20 : decode m_M_part.2.1 20 = .ok (.iconst 2, 1) := by decide +kernel
theorem D_M_part_21 : decode m_M_part.2.1 21 = .ok (.invokestatic 52, 3) := by decide +kernel
theorem D_M_part_24 : decode m_M_part.2.1 24 = .ok (.ifCond .ne 6, 3) := by decide +kernel
theorem D_M_part_27 : decode m_M_part.2.1 27 = .ok (.bipush (-2), 2) := by decide +kernel
theorem D_M_part_29 : decode m_M_part.2.1 29 = .ok (.ireturn, 1) := by decide +kernel
theorem D_M_part_30 : decode m_M_part.2.1 30 = .ok (.iload_n 2, 1) := by decide +kernel
theorem D_M_part_31 : decode m_M_part.2.1 31 = .ok (.ifCond .ne 11, 3) := by decide +kernel
theorem D_M_part_34 : decode m_M_part.2.1 34 = .ok (.aload_n 0, 1) := by decide +kernel
theorem D_M_part_35 : decode m_M_part.2.1 35 = .ok (.iload_n 1, 1) := by decide +kernel
theorem D_M_part_36 : decode m_M_part.2.1 36 = .ok (.invokevirtual 101, 3) := by decide +kernel
theorem D_M_part_39 : decode m_M_part.2.1 39 = .ok (.goto 21, 3) := by decide +kernel
theorem D_M_part_42 : decode m_M_part.2.1 42 = .ok (.iload_n 2, 1) := by decide +kernel
theorem D_M_part_43 : decode m_M_part.2.1 43 = .ok (.iconst 1, 1) := by decide +kernel
theorem D_M_part_44 : decode m_M_part.2.1 44 = .ok (.if_icmp .ne 11, 3) := by decide +kernel
theorem D_M_part_47 : decode m_M_part.2.1 47 = .ok (.aload_n 0, 1) := by decide +kernel
theorem D_M_part_48 : decode m_M_part.2.1 48 = .ok (.iload_n 1, 1) := by decide +kernel
theorem D_M_part_49 : decode m_M_part.2.1 49 = .ok (.invokevirtual 104, 3) := by decide +kernel
theorem D_M_part_52 : decode m_M_part.2.1 52 = .ok (.goto 8, 3) := by decide +kernel
theorem D_M_part_55 : decode m_M_part.2.1 55 = .ok (.aload_n 0, 1) := by decide +kernel
theorem D_M_part_56 : decode m_M_part.2.1 56 = .ok (.iload_n 1, 1) := by decide +kernel
theorem D_M_part_57 : decode m_M_part.2.1 57 = .ok (.invokevirtual 107, 3) := by decide +kernel
theorem D_M_part_60 : decode m_M_part.2.1 60 = .ok (.ireturn, 1) := by decide +kernel
theorem D_M_inParts_0 : decode m_M_inParts.2.1 0 = .ok (.iconst 0, 1) := by decide +kernel
theorem D_M_inParts_1 : decode m_M_inParts.2.1 1 = .ok (.istore_n 1, 1) := by decide +kernel
theorem D_M_inParts_2 : decode m_M_inParts.2.1 2 = .ok (.iconst 0, 1) := by decide +kernel
theorem D_M_inParts_3 : decode m_M_inParts.2.1 3 = .ok (.istore_n 2, 1) := by decide +kernel
theorem D_M_inParts_4 : decode m_M_inParts.2.1 4 = .ok (.iload_n 2, 1) := by decide +kernel
theorem D_M_inParts_5 : decode m_M_inParts.2.1 5 = .ok (.aload_n 0, 1) := by decide +kernel
theorem D_M_inParts_6 : decode m_M_inParts.2.1 6 = .ok (.getfield 7, 3) := by decide +kernel
theorem D_M_inParts_9 : decode m_M_inParts.2.1 9 = .ok (.bipush 36, 2) := by decide +kernel
theorem D_M_inParts_11 : decode m_M_inParts.2.1 11 = .ok (.iaload, 1) := by decide +kernel
theorem D_M_inParts_12 : decode m_M_inParts.2.1 12 = .ok (.if_icmp .ge 51, 3) := by decide +kernel
theorem D_M_inParts_15 : decode m_M_inParts.2.1 15 = .ok (.iconst 0, 1) := by decide +kernel
theorem D_M_inParts_16 : decode m_M_inParts.2.1 16 = .ok (.istore_n 3, 1) := by decide +kernel
theorem D_M_inParts_17 : decode m_M_inParts.2.1 17 = .ok (.iload_n 3, 1) := by decide +kernel
theorem D_M_inParts_18 : decode m_M_inParts.2.1 18 = .ok (.aload_n 0, 1) := by decide +kernel
theorem D_M_inParts_19 : decode m_M_inParts.2.1 19 = .ok (.getfield 7, 3) := by decide +kernel
theorem D_M_inParts_22 : decode m_M_inParts.2.1 22 = .ok (.bipush 37, 2) := by decide +kernel
theorem D_M_inParts_24 : decode m_M_inParts.2.1 24 = .ok (.iaload, 1) := by decide +kernel
theorem D_M_inParts_25 : decode m_M_inParts.2.1 25 = .ok (.if_icmp .ge 32, 3) := by decide +kernel
theorem D_M_inParts_28 : decode m_M_inParts.2.1 28 = .ok (.iload_n 1, 1) := by decide +kernel
theorem D_M_inParts_29 : decode m_M_inParts.2.1 29 = .ok (.aload_n 0, 1) := by decide +kernel
theorem D_M_inParts_30 : decode m_M_inParts.2.1 30 = .ok (.getfield 27, 3) := by decide +kernel
theorem D_M_inParts_33 : decode m_M_inParts.2.1 33 = .ok (.iload_n 2, 1) := by decide +kernel
theorem D_M_inParts_34 : decode m_M_inParts.2.1 34 = .ok (.iaload, 1) := by decide +kernel
theorem D_M_inParts_35 : decode m_M_inParts.2.1 35 = .ok (.aload_n 0, 1) := by decide +kernel
theorem D_M_inParts_36 : decode m_M_inParts.2.1 36 = .ok (.getfield 30, 3) := by decide +kernel
theorem D_M_inParts_39 : decode m_M_inParts.2.1 39 = .ok (.iload_n 3, 1) := by decide +kernel
theorem D_M_inParts_40 : decode m_M_inParts.2.1 40 = .ok (.iaload, 1) := by decide +kernel
theorem D_M_inParts_41 : decode m_M_inParts.2.1 41 = .ok (.if_icmp .ne 7, 3) := by decide +kernel
theorem D_M_inParts_44 : decode m_M_inParts.2.1 44 = .ok (.iconst 1, 1) := by decide +kernel
theorem D_M_inParts_45 : decode m_M_inParts.2.1 45 = .ok (.goto 4, 3) := by decide +kernel
theorem D_M_inParts_48 : decode m_M_inParts.2.1 48 = .ok (.iconst 0, 1) := by decide +kernel
theorem D_M_inParts_49 : decode m_M_inParts.2.1 49 = .ok (.iadd, 1) := by decide +kernel
theorem D_M_inParts_50 : decode m_M_inParts.2.1 50 = .ok (.istore_n 1, 1) := by decide +kernel
theorem D_M_inParts_51 : decode m_M_inParts.2.1 51 = .ok (.iinc 3 1, 3) := by decide +kernel
theorem D_M_inParts_54 : decode m_M_inParts.2.1 54 = .ok (.goto (-37), 3) := by decide +kernel
theorem D_M_inParts_57 : decode m_M_inParts.2.1 57 = .ok (.iinc 2 1, 3) := by decide +kernel
theorem D_M_inParts_60 : decode m_M_inParts.2.1 60 = .ok (.goto (-56), 3) := by decide +kernel
theorem D_M_inParts_63 : decode m_M_inParts.2.1 63 = .ok (.iload_n 1, 1) := by decide +kernel
theorem D_M_inParts_64 : decode m_M_inParts.2.1 64 = .ok (.ireturn, 1) := by decide +kernel
theorem D_M_minors_0 : decode m_M_minors.2.1 0 = .ok (.iconst 0, 1) := by decide +kernel
theorem D_M_minors_1 : decode m_M_minors.2.1 1 = .ok (.istore_n 2, 1) := by decide +kernel
theorem D_M_minors_2 : decode m_M_minors.2.1 2 = .ok (.iconst 0, 1) := by decide +kernel
theorem D_M_minors_3 : decode m_M_minors.2.1 3 = .ok (.istore_n 3, 1) := by decide +kernel
theorem D_M_minors_4 : decode m_M_minors.2.1 4 = .ok (.iload_n 3, 1) := by decide +kernel
theorem D_M_minors_5 : decode m_M_minors.2.1 5 = .ok (.aload_n 0, 1) := by decide +kernel
theorem D_M_minors_6 : decode m_M_minors.2.1 6 = .ok (.getfield 7, 3) := by decide +kernel
theorem D_M_minors_9 : decode m_M_minors.2.1 9 = .ok (.bipush 36, 2) := by decide +kernel
theorem D_M_minors_11 : decode m_M_minors.2.1 11 = .ok (.iaload, 1) := by decide +kernel
theorem D_M_minors_12 : decode m_M_minors.2.1 12 = .ok (.if_icmp .ge 180, 3) := by decide +kernel
theorem D_M_minors_15 : decode m_M_minors.2.1 15 = .ok (.iconst 0, 1) := by decide +kernel
theorem D_M_minors_16 : decode m_M_minors.2.1 16 = .ok (.istore 4, 2) := by decide +kernel
theorem D_M_minors_18 : decode m_M_minors.2.1 18 = .ok (.iload 4, 2) := by decide +kernel
theorem D_M_minors_20 : decode m_M_minors.2.1 20 = .ok (.iload_n 3, 1) := by decide +kernel
theorem D_M_minors_21 : decode m_M_minors.2.1 21 = .ok (.if_icmp .ge 165, 3) := by decide +kernel
theorem D_M_minors_24 : decode m_M_minors.2.1 24 = .ok (.iconst 0, 1) := by decide +kernel
theorem D_M_minors_25 : decode m_M_minors.2.1 25 = .ok (.istore 5, 2) := by decide +kernel
theorem D_M_minors_27 : decode m_M_minors.2.1 27 = .ok (.iload 5, 2) := by decide +kernel
theorem D_M_minors_29 : decode m_M_minors.2.1 29 = .ok (.aload_n 0, 1) := by decide +kernel
theorem D_M_minors_30 : decode m_M_minors.2.1 30 = .ok (.getfield 7, 3) := by decide +kernel
theorem D_M_minors_33 : decode m_M_minors.2.1 33 = .ok (.bipush 37, 2) := by decide +kernel
theorem D_M_minors_35 : decode m_M_minors.2.1 35 = .ok (.iaload, 1) := by decide +kernel
theorem D_M_minors_36 : decode m_M_minors.2.1 36 = .ok (.if_icmp .ge 144, 3) := by decide +kernel
theorem D_M_minors_39 : decode m_M_minors.2.1 39 = .ok (.iconst 0, 1) := by decide +kernel
theorem D_M_minors_40 : decode m_M_minors.2.1 40 = .ok (.istore 6, 2) := by decide +kernel
theorem D_M_minors_42 : decode m_M_minors.2.1 42 = .ok (.iload 6, 2) := by decide +kernel
theorem D_M_minors_44 : decode m_M_minors.2.1 44 = .ok (.iload 5, 2) := by decide +kernel
theorem D_M_minors_46 : decode m_M_minors.2.1 46 = .ok (.if_icmp .ge 128, 3) := by decide +kernel
theorem D_M_minors_49 : decode m_M_minors.2.1 49 = .ok (.aload_n 0, 1) := by decide +kernel
theorem D_M_minors_50 : decode m_M_minors.2.1 50 = .ok (.iload_n 3, 1) := by decide +kernel
theorem D_M_minors_51 : decode m_M_minors.2.1 51 = .ok (.iload 5, 2) := by decide +kernel
theorem D_M_minors_53 : decode m_M_minors.2.1 53 = .ok (.invokevirtual 67, 3) := by decide +kernel
theorem D_M_minors_56 : decode m_M_minors.2.1 56 = .ok (.ifCond .le 39, 3) := by decide +kernel
theorem D_M_minors_59 : decode m_M_minors.2.1 59 = .ok (.aload_n 0, 1) := by decide +kernel
theorem D_M_minors_60 : decode m_M_minors.2.1 60 = .ok (.iload 4, 2) := by decide +kernel
theorem D_M_minors_62 : decode m_M_minors.2.1 62 = .ok (.iload 5, 2) := by decide +kernel
theorem D_M_minors_64 : decode m_M_minors.2.1 64 = .ok (.invokevirtual 67, 3) := by decide +kernel
theorem D_M_minors_67 : decode m_M_minors.2.1 67 = .ok (.ifCond .le 28, 3) := by decide +kernel
theorem D_M_minors_70 : decode m_M_minors.2.1 70 = .ok (.aload_n 0, 1) := by decide +kernel
theorem D_M_minors_71 : decode m_M_minors.2.1 71 = .ok (.iload_n 3, 1) := by decide +kernel
theorem D_M_minors_72 : decode m_M_minors.2.1 72 = .ok (.iload 6, 2) := by decide +kernel
theorem D_M_minors_74 : decode m_M_minors.2.1 74 = .ok (.invokevirtual 67, 3) := by decide +kernel
theorem D_M_minors_77 : decode m_M_minors.2.1 77 = .ok (.ifCond .le 18, 3) := by decide +kernel
theorem D_M_minors_80 : decode m_M_minors.2.1 80 = .ok (.aload_n 0, 1) := by decide +kernel
theorem D_M_minors_81 : decode m_M_minors.2.1 81 = .ok (.iload 4, 2) := by decide +kernel
theorem D_M_minors_83 : decode m_M_minors.2.1 83 = .ok (.iload 6, 2) := by decide +kernel
theorem D_M_minors_85 : decode m_M_minors.2.1 85 = .ok (.invokevirtual 67, 3) := by decide +kernel
theorem D_M_minors_88 : decode m_M_minors.2.1 88 = .ok (.ifCond .le 7, 3) := by decide +kernel
theorem D_M_minors_91 : decode m_M_minors.2.1 91 = .ok (.iconst 1, 1) := by decide +kernel
theorem D_M_minors_92 : decode m_M_minors.2.1 92 = .ok (.goto 4, 3) := by decide +kernel
theorem D_M_minors_95 : decode m_M_minors.2.1 95 = .ok (.iconst 0, 1) := by decide +kernel
theorem D_M_minors_96 : decode m_M_minors.2.1 96 = .ok (.istore 7, 2) := by decide +kernel
theorem D_M_minors_98 : decode m_M_minors.2.1 98 = .ok (.aload_n 0, 1) := by decide +kernel
theorem D_M_minors_99 : decode m_M_minors.2.1 99 = .ok (.aload_n 0, 1) := by decide +kernel
theorem D_M_minors_100 : decode m_M_minors.2.1 100 = .ok (.iload_n 3, 1) := by decide +kernel
theorem D_M_minors_101 : decode m_M_minors.2.1 101 = .ok (.iload 5, 2) := by decide +kernel
theorem D_M_minors_103 : decode m_M_minors.2.1 103 = .ok (.invokevirtual 67, 3) := by decide +kernel
theorem D_M_minors_106 : decode m_M_minors.2.1 106 = .ok (.aload_n 0, 1) := by decide +kernel
theorem D_M_minors_107 : decode m_M_minors.2.1 107 = .ok (.iload 4, 2) := by decide +kernel
theorem D_M_minors_109 : decode m_M_minors.2.1 109 = .ok (.iload 6, 2) := by decide +kernel
theorem D_M_minors_111 : decode m_M_minors.2.1 111 = .ok (.invokevirtual 67, 3) := by decide +kernel
theorem D_M_minors_114 : decode m_M_minors.2.1 114 = .ok (.invokevirtual 63, 3) := by decide +kernel
theorem D_M_minors_117 : decode m_M_minors.2.1 117 = .ok (.aload_n 0, 1) := by decide +kernel
theorem D_M_minors_118 : decode m_M_minors.2.1 118 = .ok (.aload_n 0, 1) := by decide +kernel
theorem D_M_minors_119 : decode m_M_minors.2.1 119 = .ok (.iload_n 3, 1) := by decide +kernel
theorem D_M_minors_120 : decode m_M_minors.2.1 120 = .ok (.iload 6, 2) := by decide +kernel
theorem D_M_minors_122 : decode m_M_minors.2.1 122 = .ok (.invokevirtual 67, 3) := by decide +kernel
theorem D_M_minors_125 : decode m_M_minors.2.1 125 = .ok (.aload_n 0, 1) := by decide +kernel
theorem D_M_minors_126 : decode m_M_minors.2.1 126 = .ok (.iload 4, 2) := by decide +kernel
theorem D_M_minors_128 : decode m_M_minors.2.1 128 = .ok (.iload 5, 2) := by decide +kernel
theorem D_M_minors_130 : decode m_M_minors.2.1 130 = .ok (.invokevirtual 67, 3) := by decide +kernel
theorem D_M_minors_133 : decode m_M_minors.2.1 133 = .ok (.invokevirtual 63, 3) := by decide +kernel
theorem D_M_minors_136 : decode m_M_minors.2.1 136 = .ok (.if_icmp .ne 7, 3) := by decide +kernel
theorem D_M_minors_139 : decode m_M_minors.2.1 139 = .ok (.iconst 1, 1) := by decide +kernel
theorem D_M_minors_140 : decode m_M_minors.2.1 140 = .ok (.goto 4, 3) := by decide +kernel
theorem D_M_minors_143 : decode m_M_minors.2.1 143 = .ok (.iconst 0, 1) := by decide +kernel
theorem D_M_minors_144 : decode m_M_minors.2.1 144 = .ok (.istore 8, 2) := by decide +kernel
theorem D_M_minors_146 : decode m_M_minors.2.1 146 = .ok (.iload_n 2, 1) := by decide +kernel
theorem D_M_minors_147 : decode m_M_minors.2.1 147 = .ok (.iload 7, 2) := by decide +kernel
theorem D_M_minors_149 : decode m_M_minors.2.1 149 = .ok (.ifCond .eq 16, 3) := by decide +kernel
theorem D_M_minors_152 : decode m_M_minors.2.1 152 = .ok (.iload_n 1, 1) := by decide +kernel
theorem D_M_minors_153 : decode m_M_minors.2.1 153 = .ok (.ifCond .eq 8, 3) := by decide +kernel
theorem D_M_minors_156 : decode m_M_minors.2.1 156 = .ok (.iload 8, 2) := by decide +kernel
theorem D_M_minors_158 : decode m_M_minors.2.1 158 = .ok (.ifCond .ne 7, 3) := by decide +kernel
theorem D_M_minors_161 : decode m_M_minors.2.1 161 = .ok (.iconst 1, 1) := by decide +kernel
theorem D_M_minors_162 : decode m_M_minors.2.1 162 = .ok (.goto 4, 3) := by decide +kernel
theorem D_M_minors_165 : decode m_M_minors.2.1 165 = .ok (.iconst 0, 1) := by decide +kernel
theorem D_M_minors_166 : decode m_M_minors.2.1 166 = .ok (.iadd, 1) := by decide +kernel
theorem D_M_minors_167 : decode m_M_minors.2.1 167 = .ok (.istore_n 2, 1) := by decide +kernel
theorem D_M_minors_168 : decode m_M_minors.2.1 168 = .ok (.iinc 6 1, 3) := by decide +kernel
theorem D_M_minors_171 : decode m_M_minors.2.1 171 = .ok (.goto (-129), 3) := by decide +kernel
theorem D_M_minors_174 : decode m_M_minors.2.1 174 = .ok (.iinc 5 1, 3) := by decide +kernel
theorem D_M_minors_177 : decode m_M_minors.2.1 177 = .ok (.goto (-150), 3) := by decide +kernel
theorem D_M_minors_180 : decode m_M_minors.2.1 180 = .ok (.iinc 4 1, 3) := by decide +kernel
theorem D_M_minors_183 : decode m_M_minors.2.1 183 = .ok (.goto (-165), 3) := by decide +kernel
theorem D_M_minors_186 : decode m_M_minors.2.1 186 = .ok (.iinc 3 1, 3) := by decide +kernel
theorem D_M_minors_189 : decode m_M_minors.2.1 189 = .ok (.goto (-185), 3) := by decide +kernel
theorem D_M_minors_192 : decode m_M_minors.2.1 192 = .ok (.iload_n 2, 1) := by decide +kernel
theorem D_M_minors_193 : decode m_M_minors.2.1 193 = .ok (.ireturn, 1) := by decide +kernel
theorem D_M_areTold_0 : decode m_M_areTold.2.1 0 = .ok (.iconst 1, 1) := by decide +kernel
theorem D_M_areTold_1 : decode m_M_areTold.2.1 1 = .ok (.istore_n 3, 1) := by decide +kernel
theorem D_M_areTold_2 : decode m_M_areTold.2.1 2 = .ok (.iconst 0, 1) := by decide +kernel
theorem D_M_areTold_3 : decode m_M_areTold.2.1 3 = .ok (.istore 4, 2) := by decide +kernel
theorem D_M_areTold_5 : decode m_M_areTold.2.1 5 = .ok (.iload 4, 2) := by decide +kernel
theorem D_M_areTold_7 : decode m_M_areTold.2.1 7 = .ok (.aload_n 0, 1) := by decide +kernel
theorem D_M_areTold_8 : decode m_M_areTold.2.1 8 = .ok (.getfield 7, 3) := by decide +kernel
theorem D_M_areTold_11 : decode m_M_areTold.2.1 11 = .ok (.bipush 36, 2) := by decide +kernel
theorem D_M_areTold_13 : decode m_M_areTold.2.1 13 = .ok (.iaload, 1) := by decide +kernel
theorem D_M_areTold_14 : decode m_M_areTold.2.1 14 = .ok (.if_icmp .ge 38, 3) := by decide +kernel
theorem D_M_areTold_17 : decode m_M_areTold.2.1 17 = .ok (.iload_n 3, 1) := by decide +kernel
theorem D_M_areTold_18 : decode m_M_areTold.2.1 18 = .ok (.ifCond .eq 26, 3) := by decide +kernel
theorem D_M_areTold_21 : decode m_M_areTold.2.1 21 = .ok (.iload_n 1, 1) := by decide +kernel
theorem D_M_areTold_22 : decode m_M_areTold.2.1 22 = .ok (.iload 4, 2) := by decide +kernel
theorem D_M_areTold_24 : decode m_M_areTold.2.1 24 = .ok (.ishr, 1) := by decide +kernel
theorem D_M_areTold_25 : decode m_M_areTold.2.1 25 = .ok (.iconst 1, 1) := by decide +kernel
theorem D_M_areTold_26 : decode m_M_areTold.2.1 26 = .ok (.iand, 1) := by decide +kernel
theorem D_M_areTold_27 : decode m_M_areTold.2.1 27 = .ok (.ifCond .eq 13, 3) := by decide +kernel
theorem D_M_areTold_30 : decode m_M_areTold.2.1 30 = .ok (.aload_n 0, 1) := by decide +kernel
theorem D_M_areTold_31 : decode m_M_areTold.2.1 31 = .ok (.iload 4, 2) := by decide +kernel
theorem D_M_areTold_33 : decode m_M_areTold.2.1 33 = .ok (.iload_n 2, 1) := by decide +kernel
theorem D_M_areTold_34 : decode m_M_areTold.2.1 34 = .ok (.invokevirtual 67, 3) := by decide +kernel
theorem D_M_areTold_37 : decode m_M_areTold.2.1 37 = .ok (.ifCond .le 7, 3) := by decide +kernel
theorem D_M_areTold_40 : decode m_M_areTold.2.1 40 = .ok (.iconst 1, 1) := by decide +kernel
theorem D_M_areTold_41 : decode m_M_areTold.2.1 41 = .ok (.goto 4, 3) := by decide +kernel
theorem D_M_areTold_44 : decode m_M_areTold.2.1 44 = .ok (.iconst 0, 1) := by decide +kernel
theorem D_M_areTold_45 : decode m_M_areTold.2.1 45 = .ok (.istore_n 3, 1) := by decide +kernel
theorem D_M_areTold_46 : decode m_M_areTold.2.1 46 = .ok (.iinc 4 1, 3) := by decide +kernel
theorem D_M_areTold_49 : decode m_M_areTold.2.1 49 = .ok (.goto (-44), 3) := by decide +kernel
theorem D_M_areTold_52 : decode m_M_areTold.2.1 52 = .ok (.iload_n 3, 1) := by decide +kernel
theorem D_M_areTold_53 : decode m_M_areTold.2.1 53 = .ok (.ireturn, 1) := by decide +kernel
theorem D_M_clearBy_0 : decode m_M_clearBy.2.1 0 = .ok (.aload_n 0, 1) := by decide +kernel
theorem D_M_clearBy_1 : decode m_M_clearBy.2.1 1 = .ok (.aload_n 0, 1) := by decide +kernel
theorem D_M_clearBy_2 : decode m_M_clearBy.2.1 2 = .ok (.getfield 39, 3) := by decide +kernel
theorem D_M_clearBy_5 : decode m_M_clearBy.2.1 5 = .ok (.bipush 6, 2) := by decide +kernel
theorem D_M_clearBy_7 : decode m_M_clearBy.2.1 7 = .ok (.iload_n 1, 1) := by decide +kernel
theorem D_M_clearBy_8 : decode m_M_clearBy.2.1 8 = .ok (.imul, 1) := by decide +kernel
theorem D_M_clearBy_9 : decode m_M_clearBy.2.1 9 = .ok (.iload_n 3, 1) := by decide +kernel
theorem D_M_clearBy_10 : decode m_M_clearBy.2.1 10 = .ok (.iadd, 1) := by decide +kernel
theorem D_M_clearBy_11 : decode m_M_clearBy.2.1 11 = .ok (.iaload, 1) := by decide +kernel
theorem D_M_clearBy_12 : decode m_M_clearBy.2.1 12 = .ok (.aload_n 0, 1) := by decide +kernel
theorem D_M_clearBy_13 : decode m_M_clearBy.2.1 13 = .ok (.aload_n 0, 1) := by decide +kernel
theorem D_M_clearBy_14 : decode m_M_clearBy.2.1 14 = .ok (.getfield 39, 3) := by decide +kernel
theorem D_M_clearBy_17 : decode m_M_clearBy.2.1 17 = .ok (.bipush 6, 2) := by decide +kernel
theorem D_M_clearBy_19 : decode m_M_clearBy.2.1 19 = .ok (.iload_n 2, 1) := by decide +kernel
theorem D_M_clearBy_20 : decode m_M_clearBy.2.1 20 = .ok (.imul, 1) := by decide +kernel
theorem D_M_clearBy_21 : decode m_M_clearBy.2.1 21 = .ok (.iload_n 3, 1) := by decide +kernel
theorem D_M_clearBy_22 : decode m_M_clearBy.2.1 22 = .ok (.iadd, 1) := by decide +kernel
theorem D_M_clearBy_23 : decode m_M_clearBy.2.1 23 = .ok (.iaload, 1) := by decide +kernel
theorem D_M_clearBy_24 : decode m_M_clearBy.2.1 24 = .ok (.invokevirtual 70, 3) := by decide +kernel
theorem D_M_clearBy_27 : decode m_M_clearBy.2.1 27 = .ok (.invokevirtual 63, 3) := by decide +kernel
theorem D_M_clearBy_30 : decode m_M_clearBy.2.1 30 = .ok (.istore 5, 2) := by decide +kernel
theorem D_M_clearBy_32 : decode m_M_clearBy.2.1 32 = .ok (.iconst 0, 1) := by decide +kernel
theorem D_M_clearBy_33 : decode m_M_clearBy.2.1 33 = .ok (.istore 6, 2) := by decide +kernel
theorem D_M_clearBy_35 : decode m_M_clearBy.2.1 35 = .ok (.iload 6, 2) := by decide +kernel
theorem D_M_clearBy_37 : decode m_M_clearBy.2.1 37 = .ok (.iload 4, 2) := by decide +kernel
theorem D_M_clearBy_39 : decode m_M_clearBy.2.1 39 = .ok (.if_icmp .ge 72, 3) := by decide +kernel
theorem D_M_clearBy_42 : decode m_M_clearBy.2.1 42 = .ok (.aload_n 0, 1) := by decide +kernel
theorem D_M_clearBy_43 : decode m_M_clearBy.2.1 43 = .ok (.iload 5, 2) := by decide +kernel
theorem D_M_clearBy_45 : decode m_M_clearBy.2.1 45 = .ok (.aload_n 0, 1) := by decide +kernel
theorem D_M_clearBy_46 : decode m_M_clearBy.2.1 46 = .ok (.getfield 39, 3) := by decide +kernel
theorem D_M_clearBy_49 : decode m_M_clearBy.2.1 49 = .ok (.bipush 6, 2) := by decide +kernel
theorem D_M_clearBy_51 : decode m_M_clearBy.2.1 51 = .ok (.iload_n 2, 1) := by decide +kernel
theorem D_M_clearBy_52 : decode m_M_clearBy.2.1 52 = .ok (.imul, 1) := by decide +kernel
theorem D_M_clearBy_53 : decode m_M_clearBy.2.1 53 = .ok (.iload 6, 2) := by decide +kernel
theorem D_M_clearBy_55 : decode m_M_clearBy.2.1 55 = .ok (.iadd, 1) := by decide +kernel
theorem D_M_clearBy_56 : decode m_M_clearBy.2.1 56 = .ok (.iaload, 1) := by decide +kernel
theorem D_M_clearBy_57 : decode m_M_clearBy.2.1 57 = .ok (.invokevirtual 63, 3) := by decide +kernel
theorem D_M_clearBy_60 : decode m_M_clearBy.2.1 60 = .ok (.istore 7, 2) := by decide +kernel
theorem D_M_clearBy_62 : decode m_M_clearBy.2.1 62 = .ok (.aload_n 0, 1) := by decide +kernel
theorem D_M_clearBy_63 : decode m_M_clearBy.2.1 63 = .ok (.getfield 39, 3) := by decide +kernel
theorem D_M_clearBy_66 : decode m_M_clearBy.2.1 66 = .ok (.bipush 6, 2) := by decide +kernel
theorem D_M_clearBy_68 : decode m_M_clearBy.2.1 68 = .ok (.iload_n 1, 1) := by decide +kernel
theorem D_M_clearBy_69 : decode m_M_clearBy.2.1 69 = .ok (.imul, 1) := by decide +kernel
theorem D_M_clearBy_70 : decode m_M_clearBy.2.1 70 = .ok (.iload 6, 2) := by decide +kernel
theorem D_M_clearBy_72 : decode m_M_clearBy.2.1 72 = .ok (.iadd, 1) := by decide +kernel
theorem D_M_clearBy_73 : decode m_M_clearBy.2.1 73 = .ok (.aload_n 0, 1) := by decide +kernel
theorem D_M_clearBy_74 : decode m_M_clearBy.2.1 74 = .ok (.getfield 39, 3) := by decide +kernel
theorem D_M_clearBy_77 : decode m_M_clearBy.2.1 77 = .ok (.bipush 6, 2) := by decide +kernel
theorem D_M_clearBy_79 : decode m_M_clearBy.2.1 79 = .ok (.iload_n 1, 1) := by decide +kernel
theorem D_M_clearBy_80 : decode m_M_clearBy.2.1 80 = .ok (.imul, 1) := by decide +kernel
theorem D_M_clearBy_81 : decode m_M_clearBy.2.1 81 = .ok (.iload 6, 2) := by decide +kernel
theorem D_M_clearBy_83 : decode m_M_clearBy.2.1 83 = .ok (.iadd, 1) := by decide +kernel
theorem D_M_clearBy_84 : decode m_M_clearBy.2.1 84 = .ok (.iaload, 1) := by decide +kernel
theorem D_M_clearBy_85 : decode m_M_clearBy.2.1 85 = .ok (.aload_n 0, 1) := by decide +kernel
theorem D_M_clearBy_86 : decode m_M_clearBy.2.1 86 = .ok (.getfield 7, 3) := by decide +kernel
theorem D_M_clearBy_89 : decode m_M_clearBy.2.1 89 = .ok (.bipush 38, 2) := by decide +kernel
theorem D_M_clearBy_91 : decode m_M_clearBy.2.1 91 = .ok (.iaload, 1) := by decide +kernel
theorem D_M_clearBy_92 : decode m_M_clearBy.2.1 92 = .ok (.iadd, 1) := by decide +kernel
theorem D_M_clearBy_93 : decode m_M_clearBy.2.1 93 = .ok (.iload 7, 2) := by decide +kernel
theorem D_M_clearBy_95 : decode m_M_clearBy.2.1 95 = .ok (.isub, 1) := by decide +kernel
theorem D_M_clearBy_96 : decode m_M_clearBy.2.1 96 = .ok (.aload_n 0, 1) := by decide +kernel
theorem D_M_clearBy_97 : decode m_M_clearBy.2.1 97 = .ok (.getfield 7, 3) := by decide +kernel
theorem D_M_clearBy_100 : decode m_M_clearBy.2.1 100 = .ok (.bipush 38, 2) := by decide +kernel
theorem D_M_clearBy_102 : decode m_M_clearBy.2.1 102 = .ok (.iaload, 1) := by decide +kernel
theorem D_M_clearBy_103 : decode m_M_clearBy.2.1 103 = .ok (.irem, 1) := by decide +kernel
theorem D_M_clearBy_104 : decode m_M_clearBy.2.1 104 = .ok (.iastore, 1) := by decide +kernel
theorem D_M_clearBy_105 : decode m_M_clearBy.2.1 105 = .ok (.iinc 6 1, 3) := by decide +kernel
theorem D_M_clearBy_108 : decode m_M_clearBy.2.1 108 = .ok (.goto (-73), 3) := by decide +kernel
theorem D_M_clearBy_111 : decode m_M_clearBy.2.1 111 = .ok (.return_, 1) := by decide +kernel
theorem D_M_exchange_0 : decode m_M_exchange.2.1 0 = .ok (.iconst 0, 1) := by decide +kernel
theorem D_M_exchange_1 : decode m_M_exchange.2.1 1 = .ok (.istore 4, 2) := by decide +kernel
theorem D_M_exchange_3 : decode m_M_exchange.2.1 3 = .ok (.iload 4, 2) := by decide +kernel
theorem D_M_exchange_5 : decode m_M_exchange.2.1 5 = .ok (.iload_n 3, 1) := by decide +kernel
theorem D_M_exchange_6 : decode m_M_exchange.2.1 6 = .ok (.if_icmp .ge 61, 3) := by decide +kernel
theorem D_M_exchange_9 : decode m_M_exchange.2.1 9 = .ok (.aload_n 0, 1) := by decide +kernel
theorem D_M_exchange_10 : decode m_M_exchange.2.1 10 = .ok (.getfield 39, 3) := by decide +kernel
theorem D_M_exchange_13 : decode m_M_exchange.2.1 13 = .ok (.bipush 6, 2) := by decide +kernel
theorem D_M_exchange_15 : decode m_M_exchange.2.1 15 = .ok (.iload_n 1, 1) := by decide +kernel
theorem D_M_exchange_16 : decode m_M_exchange.2.1 16 = .ok (.imul, 1) := by decide +kernel
theorem D_M_exchange_17 : decode m_M_exchange.2.1 17 = .ok (.iload 4, 2) := by decide +kernel
theorem D_M_exchange_19 : decode m_M_exchange.2.1 19 = .ok (.iadd, 1) := by decide +kernel
theorem D_M_exchange_20 : decode m_M_exchange.2.1 20 = .ok (.iaload, 1) := by decide +kernel
theorem D_M_exchange_21 : decode m_M_exchange.2.1 21 = .ok (.istore 5, 2) := by decide +kernel
theorem D_M_exchange_23 : decode m_M_exchange.2.1 23 = .ok (.aload_n 0, 1) := by decide +kernel
theorem D_M_exchange_24 : decode m_M_exchange.2.1 24 = .ok (.getfield 39, 3) := by decide +kernel
theorem D_M_exchange_27 : decode m_M_exchange.2.1 27 = .ok (.bipush 6, 2) := by decide +kernel
theorem D_M_exchange_29 : decode m_M_exchange.2.1 29 = .ok (.iload_n 1, 1) := by decide +kernel
theorem D_M_exchange_30 : decode m_M_exchange.2.1 30 = .ok (.imul, 1) := by decide +kernel
theorem D_M_exchange_31 : decode m_M_exchange.2.1 31 = .ok (.iload 4, 2) := by decide +kernel
theorem D_M_exchange_33 : decode m_M_exchange.2.1 33 = .ok (.iadd, 1) := by decide +kernel
theorem D_M_exchange_34 : decode m_M_exchange.2.1 34 = .ok (.aload_n 0, 1) := by decide +kernel
theorem D_M_exchange_35 : decode m_M_exchange.2.1 35 = .ok (.getfield 39, 3) := by decide +kernel
theorem D_M_exchange_38 : decode m_M_exchange.2.1 38 = .ok (.bipush 6, 2) := by decide +kernel
theorem D_M_exchange_40 : decode m_M_exchange.2.1 40 = .ok (.iload_n 2, 1) := by decide +kernel
theorem D_M_exchange_41 : decode m_M_exchange.2.1 41 = .ok (.imul, 1) := by decide +kernel
theorem D_M_exchange_42 : decode m_M_exchange.2.1 42 = .ok (.iload 4, 2) := by decide +kernel
theorem D_M_exchange_44 : decode m_M_exchange.2.1 44 = .ok (.iadd, 1) := by decide +kernel
theorem D_M_exchange_45 : decode m_M_exchange.2.1 45 = .ok (.iaload, 1) := by decide +kernel
theorem D_M_exchange_46 : decode m_M_exchange.2.1 46 = .ok (.iastore, 1) := by decide +kernel
theorem D_M_exchange_47 : decode m_M_exchange.2.1 47 = .ok (.aload_n 0, 1) := by decide +kernel
theorem D_M_exchange_48 : decode m_M_exchange.2.1 48 = .ok (.getfield 39, 3) := by decide +kernel
theorem D_M_exchange_51 : decode m_M_exchange.2.1 51 = .ok (.bipush 6, 2) := by decide +kernel
theorem D_M_exchange_53 : decode m_M_exchange.2.1 53 = .ok (.iload_n 2, 1) := by decide +kernel
theorem D_M_exchange_54 : decode m_M_exchange.2.1 54 = .ok (.imul, 1) := by decide +kernel
theorem D_M_exchange_55 : decode m_M_exchange.2.1 55 = .ok (.iload 4, 2) := by decide +kernel
theorem D_M_exchange_57 : decode m_M_exchange.2.1 57 = .ok (.iadd, 1) := by decide +kernel
theorem D_M_exchange_58 : decode m_M_exchange.2.1 58 = .ok (.iload 5, 2) := by decide +kernel
theorem D_M_exchange_60 : decode m_M_exchange.2.1 60 = .ok (.iastore, 1) := by decide +kernel
theorem D_M_exchange_61 : decode m_M_exchange.2.1 61 = .ok (.iinc 4 1, 3) := by decide +kernel
theorem D_M_exchange_64 : decode m_M_exchange.2.1 64 = .ok (.goto (-61), 3) := by decide +kernel
theorem D_M_exchange_67 : decode m_M_exchange.2.1 67 = .ok (.return_, 1) := by decide +kernel
theorem D_M_rankOf_0 : decode m_M_rankOf.2.1 0 = .ok (.iconst 0, 1) := by decide +kernel
theorem D_M_rankOf_1 : decode m_M_rankOf.2.1 1 = .ok (.istore_n 3, 1) := by decide +kernel
theorem D_M_rankOf_2 : decode m_M_rankOf.2.1 2 = .ok (.iconst 0, 1) := by decide +kernel
theorem D_M_rankOf_3 : decode m_M_rankOf.2.1 3 = .ok (.istore 4, 2) := by decide +kernel
theorem D_M_rankOf_5 : decode m_M_rankOf.2.1 5 = .ok (.iload 4, 2) := by decide +kernel
theorem D_M_rankOf_7 : decode m_M_rankOf.2.1 7 = .ok (.iload_n 2, 1) := by decide +kernel
theorem D_M_rankOf_8 : decode m_M_rankOf.2.1 8 = .ok (.if_icmp .ge 105, 3) := by decide +kernel
theorem D_M_rankOf_11 : decode m_M_rankOf.2.1 11 = .ok (.iload_n 3, 1) := by decide +kernel
theorem D_M_rankOf_12 : decode m_M_rankOf.2.1 12 = .ok (.iload_n 1, 1) := by decide +kernel
theorem D_M_rankOf_13 : decode m_M_rankOf.2.1 13 = .ok (.if_icmp .ge 100, 3) := by decide +kernel
theorem D_M_rankOf_16 : decode m_M_rankOf.2.1 16 = .ok (.bipush (-6), 2) := by decide +kernel
theorem D_M_rankOf_18 : decode m_M_rankOf.2.1 18 = .ok (.istore 5, 2) := by decide +kernel
theorem D_M_rankOf_20 : decode m_M_rankOf.2.1 20 = .ok (.iload_n 1, 1) := by decide +kernel
theorem D_M_rankOf_21 : decode m_M_rankOf.2.1 21 = .ok (.iconst 1, 1) := by decide +kernel
theorem D_M_rankOf_22 : decode m_M_rankOf.2.1 22 = .ok (.isub, 1) := by decide +kernel
theorem D_M_rankOf_23 : decode m_M_rankOf.2.1 23 = .ok (.istore 6, 2) := by decide +kernel
theorem D_M_rankOf_25 : decode m_M_rankOf.2.1 25 = .ok (.iload 6, 2) := by decide +kernel
theorem D_M_rankOf_27 : decode m_M_rankOf.2.1 27 = .ok (.iload_n 3, 1) := by decide +kernel
theorem D_M_rankOf_28 : decode m_M_rankOf.2.1 28 = .ok (.if_icmp .lt 34, 3) := by decide +kernel
theorem D_M_rankOf_31 : decode m_M_rankOf.2.1 31 = .ok (.aload_n 0, 1) := by decide +kernel
theorem D_M_rankOf_32 : decode m_M_rankOf.2.1 32 = .ok (.getfield 39, 3) := by decide +kernel
theorem D_M_rankOf_35 : decode m_M_rankOf.2.1 35 = .ok (.bipush 6, 2) := by decide +kernel
theorem D_M_rankOf_37 : decode m_M_rankOf.2.1 37 = .ok (.iload 6, 2) := by decide +kernel
theorem D_M_rankOf_39 : decode m_M_rankOf.2.1 39 = .ok (.imul, 1) := by decide +kernel
theorem D_M_rankOf_40 : decode m_M_rankOf.2.1 40 = .ok (.iload 4, 2) := by decide +kernel
theorem D_M_rankOf_42 : decode m_M_rankOf.2.1 42 = .ok (.iadd, 1) := by decide +kernel
theorem D_M_rankOf_43 : decode m_M_rankOf.2.1 43 = .ok (.iaload, 1) := by decide +kernel
theorem D_M_rankOf_44 : decode m_M_rankOf.2.1 44 = .ok (.ifCond .le 8, 3) := by decide +kernel
theorem D_M_rankOf_47 : decode m_M_rankOf.2.1 47 = .ok (.iload 6, 2) := by decide +kernel
theorem D_M_rankOf_49 : decode m_M_rankOf.2.1 49 = .ok (.goto 5, 3) := by decide +kernel
theorem D_M_rankOf_52 : decode m_M_rankOf.2.1 52 = .ok (.iload 5, 2) := by decide +kernel
theorem D_M_rankOf_54 : decode m_M_rankOf.2.1 54 = .ok (.istore 5, 2) := by decide +kernel
theorem D_M_rankOf_56 : decode m_M_rankOf.2.1 56 = .ok (.iinc 6 (-1), 3) := by decide +kernel
theorem D_M_rankOf_59 : decode m_M_rankOf.2.1 59 = .ok (.goto (-34), 3) := by decide +kernel
theorem D_M_rankOf_62 : decode m_M_rankOf.2.1 62 = .ok (.iload 5, 2) := by decide +kernel
theorem D_M_rankOf_64 : decode m_M_rankOf.2.1 64 = .ok (.bipush (-6), 2) := by decide +kernel
theorem D_M_rankOf_66 : decode m_M_rankOf.2.1 66 = .ok (.if_icmp .eq 41, 3) := by decide +kernel
theorem D_M_rankOf_69 : decode m_M_rankOf.2.1 69 = .ok (.aload_n 0, 1) := by decide +kernel
theorem D_M_rankOf_70 : decode m_M_rankOf.2.1 70 = .ok (.iload 5, 2) := by decide +kernel
theorem D_M_rankOf_72 : decode m_M_rankOf.2.1 72 = .ok (.iload_n 3, 1) := by decide +kernel
theorem D_M_rankOf_73 : decode m_M_rankOf.2.1 73 = .ok (.iload_n 2, 1) := by decide +kernel
theorem D_M_rankOf_74 : decode m_M_rankOf.2.1 74 = .ok (.invokevirtual 110, 3) := by decide +kernel
theorem D_M_rankOf_77 : decode m_M_rankOf.2.1 77 = .ok (.iload_n 3, 1) := by decide +kernel
theorem D_M_rankOf_78 : decode m_M_rankOf.2.1 78 = .ok (.iconst 1, 1) := by decide +kernel
theorem D_M_rankOf_79 : decode m_M_rankOf.2.1 79 = .ok (.iadd, 1) := by decide +kernel
theorem D_M_rankOf_80 : decode m_M_rankOf.2.1 80 = .ok (.istore 6, 2) := by decide +kernel
theorem D_M_rankOf_82 : decode m_M_rankOf.2.1 82 = .ok (.iload 6, 2) := by decide +kernel
theorem D_M_rankOf_84 : decode m_M_rankOf.2.1 84 = .ok (.iload_n 1, 1) := by decide +kernel
theorem D_M_rankOf_85 : decode m_M_rankOf.2.1 85 = .ok (.if_icmp .ge 19, 3) := by decide +kernel
theorem D_M_rankOf_88 : decode m_M_rankOf.2.1 88 = .ok (.aload_n 0, 1) := by decide +kernel
theorem D_M_rankOf_89 : decode m_M_rankOf.2.1 89 = .ok (.iload 6, 2) := by decide +kernel
theorem D_M_rankOf_91 : decode m_M_rankOf.2.1 91 = .ok (.iload_n 3, 1) := by decide +kernel
theorem D_M_rankOf_92 : decode m_M_rankOf.2.1 92 = .ok (.iload 4, 2) := by decide +kernel
theorem D_M_rankOf_94 : decode m_M_rankOf.2.1 94 = .ok (.iload_n 2, 1) := by decide +kernel
theorem D_M_rankOf_95 : decode m_M_rankOf.2.1 95 = .ok (.invokevirtual 114, 3) := by decide +kernel
theorem D_M_rankOf_98 : decode m_M_rankOf.2.1 98 = .ok (.iinc 6 1, 3) := by decide +kernel
theorem D_M_rankOf_101 : decode m_M_rankOf.2.1 101 = .ok (.goto (-19), 3) := by decide +kernel
theorem D_M_rankOf_104 : decode m_M_rankOf.2.1 104 = .ok (.iinc 3 1, 3) := by decide +kernel
theorem D_M_rankOf_107 : decode m_M_rankOf.2.1 107 = .ok (.iinc 4 1, 3) := by decide +kernel
theorem D_M_rankOf_110 : decode m_M_rankOf.2.1 110 = .ok (.goto (-105), 3) := by decide +kernel
theorem D_M_rankOf_113 : decode m_M_rankOf.2.1 113 = .ok (.iload_n 3, 1) := by decide +kernel
theorem D_M_rankOf_114 : decode m_M_rankOf.2.1 114 = .ok (.ireturn, 1) := by decide +kernel
theorem D_M_rankBy_0 : decode m_M_rankBy.2.1 0 = .ok (.iconst 0, 1) := by decide +kernel
theorem D_M_rankBy_1 : decode m_M_rankBy.2.1 1 = .ok (.istore_n 2, 1) := by decide +kernel
theorem D_M_rankBy_2 : decode m_M_rankBy.2.1 2 = .ok (.iconst 0, 1) := by decide +kernel
theorem D_M_rankBy_3 : decode m_M_rankBy.2.1 3 = .ok (.istore_n 3, 1) := by decide +kernel
theorem D_M_rankBy_4 : decode m_M_rankBy.2.1 4 = .ok (.iconst 0, 1) := by decide +kernel
theorem D_M_rankBy_5 : decode m_M_rankBy.2.1 5 = .ok (.istore 4, 2) := by decide +kernel
theorem D_M_rankBy_7 : decode m_M_rankBy.2.1 7 = .ok (.iload 4, 2) := by decide +kernel
theorem D_M_rankBy_9 : decode m_M_rankBy.2.1 9 = .ok (.aload_n 0, 1) := by decide +kernel
theorem D_M_rankBy_10 : decode m_M_rankBy.2.1 10 = .ok (.getfield 7, 3) := by decide +kernel
theorem D_M_rankBy_13 : decode m_M_rankBy.2.1 13 = .ok (.bipush 37, 2) := by decide +kernel
theorem D_M_rankBy_15 : decode m_M_rankBy.2.1 15 = .ok (.iaload, 1) := by decide +kernel
theorem D_M_rankBy_16 : decode m_M_rankBy.2.1 16 = .ok (.if_icmp .ge 77, 3) := by decide +kernel
theorem D_M_rankBy_19 : decode m_M_rankBy.2.1 19 = .ok (.aload_n 0, 1) := by decide +kernel
theorem D_M_rankBy_20 : decode m_M_rankBy.2.1 20 = .ok (.iload_n 1, 1) := by decide +kernel
theorem D_M_rankBy_21 : decode m_M_rankBy.2.1 21 = .ok (.iload 4, 2) := by decide +kernel
theorem D_M_rankBy_23 : decode m_M_rankBy.2.1 23 = .ok (.invokevirtual 118, 3) := by decide +kernel
theorem D_M_rankBy_26 : decode m_M_rankBy.2.1 26 = .ok (.ifCond .eq 61, 3) := by decide +kernel
theorem D_M_rankBy_29 : decode m_M_rankBy.2.1 29 = .ok (.iconst 0, 1) := by decide +kernel
theorem D_M_rankBy_30 : decode m_M_rankBy.2.1 30 = .ok (.istore_n 3, 1) := by decide +kernel
theorem D_M_rankBy_31 : decode m_M_rankBy.2.1 31 = .ok (.iconst 0, 1) := by decide +kernel
theorem D_M_rankBy_32 : decode m_M_rankBy.2.1 32 = .ok (.istore 5, 2) := by decide +kernel
theorem D_M_rankBy_34 : decode m_M_rankBy.2.1 34 = .ok (.iload 5, 2) := by decide +kernel
theorem D_M_rankBy_36 : decode m_M_rankBy.2.1 36 = .ok (.aload_n 0, 1) := by decide +kernel
theorem D_M_rankBy_37 : decode m_M_rankBy.2.1 37 = .ok (.getfield 7, 3) := by decide +kernel
theorem D_M_rankBy_40 : decode m_M_rankBy.2.1 40 = .ok (.bipush 36, 2) := by decide +kernel
theorem D_M_rankBy_42 : decode m_M_rankBy.2.1 42 = .ok (.iaload, 1) := by decide +kernel
theorem D_M_rankBy_43 : decode m_M_rankBy.2.1 43 = .ok (.if_icmp .ge 41, 3) := by decide +kernel
theorem D_M_rankBy_46 : decode m_M_rankBy.2.1 46 = .ok (.iload_n 1, 1) := by decide +kernel
theorem D_M_rankBy_47 : decode m_M_rankBy.2.1 47 = .ok (.iload 5, 2) := by decide +kernel
theorem D_M_rankBy_49 : decode m_M_rankBy.2.1 49 = .ok (.ishr, 1) := by decide +kernel
theorem D_M_rankBy_50 : decode m_M_rankBy.2.1 50 = .ok (.iconst 1, 1) := by decide +kernel
theorem D_M_rankBy_51 : decode m_M_rankBy.2.1 51 = .ok (.iand, 1) := by decide +kernel
theorem D_M_rankBy_52 : decode m_M_rankBy.2.1 52 = .ok (.iconst 1, 1) := by decide +kernel
theorem D_M_rankBy_53 : decode m_M_rankBy.2.1 53 = .ok (.if_icmp .ne 25, 3) := by decide +kernel
theorem D_M_rankBy_56 : decode m_M_rankBy.2.1 56 = .ok (.aload_n 0, 1) := by decide +kernel
theorem D_M_rankBy_57 : decode m_M_rankBy.2.1 57 = .ok (.getfield 39, 3) := by decide +kernel
theorem D_M_rankBy_60 : decode m_M_rankBy.2.1 60 = .ok (.bipush 6, 2) := by decide +kernel
theorem D_M_rankBy_62 : decode m_M_rankBy.2.1 62 = .ok (.iload_n 3, 1) := by decide +kernel
theorem D_M_rankBy_63 : decode m_M_rankBy.2.1 63 = .ok (.imul, 1) := by decide +kernel
theorem D_M_rankBy_64 : decode m_M_rankBy.2.1 64 = .ok (.iload_n 2, 1) := by decide +kernel
theorem D_M_rankBy_65 : decode m_M_rankBy.2.1 65 = .ok (.iadd, 1) := by decide +kernel
theorem D_M_rankBy_66 : decode m_M_rankBy.2.1 66 = .ok (.aload_n 0, 1) := by decide +kernel
theorem D_M_rankBy_67 : decode m_M_rankBy.2.1 67 = .ok (.iload 5, 2) := by decide +kernel
theorem D_M_rankBy_69 : decode m_M_rankBy.2.1 69 = .ok (.iload 4, 2) := by decide +kernel
theorem D_M_rankBy_71 : decode m_M_rankBy.2.1 71 = .ok (.invokevirtual 67, 3) := by decide +kernel
theorem D_M_rankBy_74 : decode m_M_rankBy.2.1 74 = .ok (.iastore, 1) := by decide +kernel
theorem D_M_rankBy_75 : decode m_M_rankBy.2.1 75 = .ok (.iinc 3 1, 3) := by decide +kernel
theorem D_M_rankBy_78 : decode m_M_rankBy.2.1 78 = .ok (.iinc 5 1, 3) := by decide +kernel
theorem D_M_rankBy_81 : decode m_M_rankBy.2.1 81 = .ok (.goto (-47), 3) := by decide +kernel
theorem D_M_rankBy_84 : decode m_M_rankBy.2.1 84 = .ok (.iinc 2 1, 3) := by decide +kernel
theorem D_M_rankBy_87 : decode m_M_rankBy.2.1 87 = .ok (.iinc 4 1, 3) := by decide +kernel
theorem D_M_rankBy_90 : decode m_M_rankBy.2.1 90 = .ok (.goto (-83), 3) := by decide +kernel
theorem D_M_rankBy_93 : decode m_M_rankBy.2.1 93 = .ok (.iload_n 2, 1) := by decide +kernel
theorem D_M_rankBy_94 : decode m_M_rankBy.2.1 94 = .ok (.ifCond .ne 7, 3) := by decide +kernel
theorem D_M_rankBy_97 : decode m_M_rankBy.2.1 97 = .ok (.iconst 0, 1) := by decide +kernel
theorem D_M_rankBy_98 : decode m_M_rankBy.2.1 98 = .ok (.goto 9, 3) := by decide +kernel
theorem D_M_rankBy_101 : decode m_M_rankBy.2.1 101 = .ok (.aload_n 0, 1) := by decide +kernel
theorem D_M_rankBy_102 : decode m_M_rankBy.2.1 102 = .ok (.iload_n 3, 1) := by decide +kernel
theorem D_M_rankBy_103 : decode m_M_rankBy.2.1 103 = .ok (.iload_n 2, 1) := by decide +kernel
theorem D_M_rankBy_104 : decode m_M_rankBy.2.1 104 = .ok (.invokevirtual 121, 3) := by decide +kernel
theorem D_M_rankBy_107 : decode m_M_rankBy.2.1 107 = .ok (.ireturn, 1) := by decide +kernel
theorem D_M_rankBound_0 : decode m_M_rankBound.2.1 0 = .ok (.iconst 0, 1) := by decide +kernel
theorem D_M_rankBound_1 : decode m_M_rankBound.2.1 1 = .ok (.istore_n 1, 1) := by decide +kernel
theorem D_M_rankBound_2 : decode m_M_rankBound.2.1 2 = .ok (.iconst 1, 1) := by decide +kernel
theorem D_M_rankBound_3 : decode m_M_rankBound.2.1 3 = .ok (.istore_n 2, 1) := by decide +kernel
theorem D_M_rankBound_4 : decode m_M_rankBound.2.1 4 = .ok (.iload_n 2, 1) := by decide +kernel
theorem D_M_rankBound_5 : decode m_M_rankBound.2.1 5 = .ok (.iconst 1, 1) := by decide +kernel
theorem D_M_rankBound_6 : decode m_M_rankBound.2.1 6 = .ok (.aload_n 0, 1) := by decide +kernel
theorem D_M_rankBound_7 : decode m_M_rankBound.2.1 7 = .ok (.getfield 7, 3) := by decide +kernel
theorem D_M_rankBound_10 : decode m_M_rankBound.2.1 10 = .ok (.bipush 36, 2) := by decide +kernel
theorem D_M_rankBound_12 : decode m_M_rankBound.2.1 12 = .ok (.iaload, 1) := by decide +kernel
theorem D_M_rankBound_13 : decode m_M_rankBound.2.1 13 = .ok (.ishl, 1) := by decide +kernel
theorem D_M_rankBound_14 : decode m_M_rankBound.2.1 14 = .ok (.if_icmp .ge 26, 3) := by decide +kernel
theorem D_M_rankBound_17 : decode m_M_rankBound.2.1 17 = .ok (.aload_n 0, 1) := by decide +kernel
theorem D_M_rankBound_18 : decode m_M_rankBound.2.1 18 = .ok (.iload_n 2, 1) := by decide +kernel
theorem D_M_rankBound_19 : decode m_M_rankBound.2.1 19 = .ok (.invokevirtual 124, 3) := by decide +kernel
theorem D_M_rankBound_22 : decode m_M_rankBound.2.1 22 = .ok (.istore_n 3, 1) := by decide +kernel
theorem D_M_rankBound_23 : decode m_M_rankBound.2.1 23 = .ok (.iload_n 3, 1) := by decide +kernel
theorem D_M_rankBound_24 : decode m_M_rankBound.2.1 24 = .ok (.iload_n 1, 1) := by decide +kernel
theorem D_M_rankBound_25 : decode m_M_rankBound.2.1 25 = .ok (.if_icmp .le 7, 3) := by decide +kernel
theorem D_M_rankBound_28 : decode m_M_rankBound.2.1 28 = .ok (.iload_n 3, 1) := by decide +kernel
theorem D_M_rankBound_29 : decode m_M_rankBound.2.1 29 = .ok (.goto 4, 3) := by decide +kernel
theorem D_M_rankBound_32 : decode m_M_rankBound.2.1 32 = .ok (.iload_n 1, 1) := by decide +kernel
theorem D_M_rankBound_33 : decode m_M_rankBound.2.1 33 = .ok (.istore_n 1, 1) := by decide +kernel
theorem D_M_rankBound_34 : decode m_M_rankBound.2.1 34 = .ok (.iinc 2 1, 3) := by decide +kernel
theorem D_M_rankBound_37 : decode m_M_rankBound.2.1 37 = .ok (.goto (-33), 3) := by decide +kernel
theorem D_M_rankBound_40 : decode m_M_rankBound.2.1 40 = .ok (.iload_n 1, 1) := by decide +kernel
theorem D_M_rankBound_41 : decode m_M_rankBound.2.1 41 = .ok (.ireturn, 1) := by decide +kernel
theorem D_M_count_0 : decode m_M_count.2.1 0 = .ok (.aload_n 0, 1) := by decide +kernel
theorem D_M_count_1 : decode m_M_count.2.1 1 = .ok (.invokevirtual 85, 3) := by decide +kernel
theorem D_M_count_4 : decode m_M_count.2.1 4 = .ok (.iload_n 1, 1) := by decide +kernel
theorem D_M_count_5 : decode m_M_count.2.1 5 = .ok (.tableswitch 142 0 11 #[63, 71, 79, 87, 92, 97, 110, 115, 121, 127, 132, 137], 63) := by decide +kernel
theorem D_M_count_68 : decode m_M_count.2.1 68 = .ok (.aload_n 0, 1) := by decide +kernel
theorem D_M_count_69 : decode m_M_count.2.1 69 = .ok (.getfield 7, 3) := by decide +kernel
theorem D_M_count_72 : decode m_M_count.2.1 72 = .ok (.bipush 36, 2) := by decide +kernel
theorem D_M_count_74 : decode m_M_count.2.1 74 = .ok (.iaload, 1) := by decide +kernel
theorem D_M_count_75 : decode m_M_count.2.1 75 = .ok (.ireturn, 1) := by decide +kernel
theorem D_M_count_76 : decode m_M_count.2.1 76 = .ok (.aload_n 0, 1) := by decide +kernel
theorem D_M_count_77 : decode m_M_count.2.1 77 = .ok (.getfield 7, 3) := by decide +kernel
theorem D_M_count_80 : decode m_M_count.2.1 80 = .ok (.bipush 37, 2) := by decide +kernel
theorem D_M_count_82 : decode m_M_count.2.1 82 = .ok (.iaload, 1) := by decide +kernel
theorem D_M_count_83 : decode m_M_count.2.1 83 = .ok (.ireturn, 1) := by decide +kernel
theorem D_M_count_84 : decode m_M_count.2.1 84 = .ok (.aload_n 0, 1) := by decide +kernel
theorem D_M_count_85 : decode m_M_count.2.1 85 = .ok (.getfield 7, 3) := by decide +kernel
theorem D_M_count_88 : decode m_M_count.2.1 88 = .ok (.bipush 38, 2) := by decide +kernel
theorem D_M_count_90 : decode m_M_count.2.1 90 = .ok (.iaload, 1) := by decide +kernel
theorem D_M_count_91 : decode m_M_count.2.1 91 = .ok (.ireturn, 1) := by decide +kernel
theorem D_M_count_92 : decode m_M_count.2.1 92 = .ok (.aload_n 0, 1) := by decide +kernel
theorem D_M_count_93 : decode m_M_count.2.1 93 = .ok (.invokevirtual 56, 3) := by decide +kernel
theorem D_M_count_96 : decode m_M_count.2.1 96 = .ok (.ireturn, 1) := by decide +kernel
theorem D_M_count_97 : decode m_M_count.2.1 97 = .ok (.aload_n 0, 1) := by decide +kernel
theorem D_M_count_98 : decode m_M_count.2.1 98 = .ok (.getfield 74, 3) := by decide +kernel
theorem D_M_count_101 : decode m_M_count.2.1 101 = .ok (.ireturn, 1) := by decide +kernel
theorem D_M_count_102 : decode m_M_count.2.1 102 = .ok (.aload_n 0, 1) := by decide +kernel
theorem D_M_count_103 : decode m_M_count.2.1 103 = .ok (.getfield 81, 3) := by decide +kernel
theorem D_M_count_106 : decode m_M_count.2.1 106 = .ok (.ifCond .eq 7, 3) := by decide +kernel
theorem D_M_count_109 : decode m_M_count.2.1 109 = .ok (.iconst 1, 1) := by decide +kernel
theorem D_M_count_110 : decode m_M_count.2.1 110 = .ok (.goto 4, 3) := by decide +kernel
theorem D_M_count_113 : decode m_M_count.2.1 113 = .ok (.iconst 0, 1) := by decide +kernel
theorem D_M_count_114 : decode m_M_count.2.1 114 = .ok (.ireturn, 1) := by decide +kernel
theorem D_M_count_115 : decode m_M_count.2.1 115 = .ok (.aload_n 0, 1) := by decide +kernel
theorem D_M_count_116 : decode m_M_count.2.1 116 = .ok (.invokevirtual 127, 3) := by decide +kernel
theorem D_M_count_119 : decode m_M_count.2.1 119 = .ok (.ireturn, 1) := by decide +kernel
theorem D_M_count_120 : decode m_M_count.2.1 120 = .ok (.aload_n 0, 1) := by decide +kernel
theorem D_M_count_121 : decode m_M_count.2.1 121 = .ok (.iconst 0, 1) := by decide +kernel
theorem D_M_count_122 : decode m_M_count.2.1 122 = .ok (.invokevirtual 130, 3) := by decide +kernel
theorem D_M_count_125 : decode m_M_count.2.1 125 = .ok (.ireturn, 1) := by decide +kernel
theorem D_M_count_126 : decode m_M_count.2.1 126 = .ok (.aload_n 0, 1) := by decide +kernel
theorem D_M_count_127 : decode m_M_count.2.1 127 = .ok (.iconst 1, 1) := by decide +kernel
theorem D_M_count_128 : decode m_M_count.2.1 128 = .ok (.invokevirtual 130, 3) := by decide +kernel
theorem D_M_count_131 : decode m_M_count.2.1 131 = .ok (.ireturn, 1) := by decide +kernel
theorem D_M_count_132 : decode m_M_count.2.1 132 = .ok (.aload_n 0, 1) := by decide +kernel
theorem D_M_count_133 : decode m_M_count.2.1 133 = .ok (.invokevirtual 134, 3) := by decide +kernel
theorem D_M_count_136 : decode m_M_count.2.1 136 = .ok (.ireturn, 1) := by decide +kernel
theorem D_M_count_137 : decode m_M_count.2.1 137 = .ok (.aload_n 0, 1) := by decide +kernel
theorem D_M_count_138 : decode m_M_count.2.1 138 = .ok (.getfield 137, 3) := by decide +kernel
theorem D_M_count_141 : decode m_M_count.2.1 141 = .ok (.ireturn, 1) := by decide +kernel
theorem D_M_count_142 : decode m_M_count.2.1 142 = .ok (.aload_n 0, 1) := by decide +kernel
theorem D_M_count_143 : decode m_M_count.2.1 143 = .ok (.getfield 48, 3) := by decide +kernel
theorem D_M_count_146 : decode m_M_count.2.1 146 = .ok (.ireturn, 1) := by decide +kernel
theorem D_M_count_147 : decode m_M_count.2.1 147 = .ok (.bipush (-2), 2) := by decide +kernel
theorem D_M_count_149 : decode m_M_count.2.1 149 = .ok (.ireturn, 1) := by decide +kernel
theorem D_M_isWrong_0 : decode m_M_isWrong.2.1 0 = .ok (.iconst 1, 1) := by decide +kernel
theorem D_M_isWrong_1 : decode m_M_isWrong.2.1 1 = .ok (.istore_n 2, 1) := by decide +kernel
theorem D_M_isWrong_2 : decode m_M_isWrong.2.1 2 = .ok (.iconst 1, 1) := by decide +kernel
theorem D_M_isWrong_3 : decode m_M_isWrong.2.1 3 = .ok (.istore_n 3, 1) := by decide +kernel
theorem D_M_isWrong_4 : decode m_M_isWrong.2.1 4 = .ok (.iconst 0, 1) := by decide +kernel
theorem D_M_isWrong_5 : decode m_M_isWrong.2.1 5 = .ok (.istore 4, 2) := by decide +kernel
theorem D_M_isWrong_7 : decode m_M_isWrong.2.1 7 = .ok (.iload 4, 2) := by decide +kernel
theorem D_M_isWrong_9 : decode m_M_isWrong.2.1 9 = .ok (.iload_n 1, 1) := by decide +kernel
theorem D_M_isWrong_10 : decode m_M_isWrong.2.1 10 = .ok (.if_icmp .ge 69, 3) := by decide +kernel
theorem D_M_isWrong_13 : decode m_M_isWrong.2.1 13 = .ok (.aload_n 0, 1) := by decide +kernel
theorem D_M_isWrong_14 : decode m_M_isWrong.2.1 14 = .ok (.getfield 42, 3) := by decide +kernel
theorem D_M_isWrong_17 : decode m_M_isWrong.2.1 17 = .ok (.iload 4, 2) := by decide +kernel
theorem D_M_isWrong_19 : decode m_M_isWrong.2.1 19 = .ok (.iconst 2, 1) := by decide +kernel
theorem D_M_isWrong_20 : decode m_M_isWrong.2.1 20 = .ok (.iadd, 1) := by decide +kernel
theorem D_M_isWrong_21 : decode m_M_isWrong.2.1 21 = .ok (.iload_n 1, 1) := by decide +kernel
theorem D_M_isWrong_22 : decode m_M_isWrong.2.1 22 = .ok (.irem, 1) := by decide +kernel
theorem D_M_isWrong_23 : decode m_M_isWrong.2.1 23 = .ok (.iaload, 1) := by decide +kernel
theorem D_M_isWrong_24 : decode m_M_isWrong.2.1 24 = .ok (.istore 5, 2) := by decide +kernel
theorem D_M_isWrong_26 : decode m_M_isWrong.2.1 26 = .ok (.aload_n 0, 1) := by decide +kernel
theorem D_M_isWrong_27 : decode m_M_isWrong.2.1 27 = .ok (.iload_n 2, 1) := by decide +kernel
theorem D_M_isWrong_28 : decode m_M_isWrong.2.1 28 = .ok (.aload_n 0, 1) := by decide +kernel
theorem D_M_isWrong_29 : decode m_M_isWrong.2.1 29 = .ok (.aload_n 0, 1) := by decide +kernel
theorem D_M_isWrong_30 : decode m_M_isWrong.2.1 30 = .ok (.getfield 42, 3) := by decide +kernel
theorem D_M_isWrong_33 : decode m_M_isWrong.2.1 33 = .ok (.iload 4, 2) := by decide +kernel
theorem D_M_isWrong_35 : decode m_M_isWrong.2.1 35 = .ok (.iaload, 1) := by decide +kernel
theorem D_M_isWrong_36 : decode m_M_isWrong.2.1 36 = .ok (.aload_n 0, 1) := by decide +kernel
theorem D_M_isWrong_37 : decode m_M_isWrong.2.1 37 = .ok (.getfield 42, 3) := by decide +kernel
theorem D_M_isWrong_40 : decode m_M_isWrong.2.1 40 = .ok (.iload 4, 2) := by decide +kernel
theorem D_M_isWrong_42 : decode m_M_isWrong.2.1 42 = .ok (.iconst 1, 1) := by decide +kernel
theorem D_M_isWrong_43 : decode m_M_isWrong.2.1 43 = .ok (.iadd, 1) := by decide +kernel
theorem D_M_isWrong_44 : decode m_M_isWrong.2.1 44 = .ok (.iaload, 1) := by decide +kernel
theorem D_M_isWrong_45 : decode m_M_isWrong.2.1 45 = .ok (.invokevirtual 67, 3) := by decide +kernel
theorem D_M_isWrong_48 : decode m_M_isWrong.2.1 48 = .ok (.invokevirtual 63, 3) := by decide +kernel
theorem D_M_isWrong_51 : decode m_M_isWrong.2.1 51 = .ok (.istore_n 2, 1) := by decide +kernel
theorem D_M_isWrong_52 : decode m_M_isWrong.2.1 52 = .ok (.aload_n 0, 1) := by decide +kernel
theorem D_M_isWrong_53 : decode m_M_isWrong.2.1 53 = .ok (.iload_n 3, 1) := by decide +kernel
theorem D_M_isWrong_54 : decode m_M_isWrong.2.1 54 = .ok (.aload_n 0, 1) := by decide +kernel
theorem D_M_isWrong_55 : decode m_M_isWrong.2.1 55 = .ok (.iload 5, 2) := by decide +kernel
theorem D_M_isWrong_57 : decode m_M_isWrong.2.1 57 = .ok (.aload_n 0, 1) := by decide +kernel
theorem D_M_isWrong_58 : decode m_M_isWrong.2.1 58 = .ok (.getfield 42, 3) := by decide +kernel
theorem D_M_isWrong_61 : decode m_M_isWrong.2.1 61 = .ok (.iload 4, 2) := by decide +kernel
theorem D_M_isWrong_63 : decode m_M_isWrong.2.1 63 = .ok (.iconst 1, 1) := by decide +kernel
theorem D_M_isWrong_64 : decode m_M_isWrong.2.1 64 = .ok (.iadd, 1) := by decide +kernel
theorem D_M_isWrong_65 : decode m_M_isWrong.2.1 65 = .ok (.iaload, 1) := by decide +kernel
theorem D_M_isWrong_66 : decode m_M_isWrong.2.1 66 = .ok (.invokevirtual 67, 3) := by decide +kernel
theorem D_M_isWrong_69 : decode m_M_isWrong.2.1 69 = .ok (.invokevirtual 63, 3) := by decide +kernel
theorem D_M_isWrong_72 : decode m_M_isWrong.2.1 72 = .ok (.istore_n 3, 1) := by decide +kernel
theorem D_M_isWrong_73 : decode m_M_isWrong.2.1 73 = .ok (.iinc 4 2, 3) := by decide +kernel
theorem D_M_isWrong_76 : decode m_M_isWrong.2.1 76 = .ok (.goto (-69), 3) := by decide +kernel
theorem D_M_isWrong_79 : decode m_M_isWrong.2.1 79 = .ok (.iload_n 2, 1) := by decide +kernel
theorem D_M_isWrong_80 : decode m_M_isWrong.2.1 80 = .ok (.iload_n 3, 1) := by decide +kernel
theorem D_M_isWrong_81 : decode m_M_isWrong.2.1 81 = .ok (.if_icmp .eq 7, 3) := by decide +kernel
theorem D_M_isWrong_84 : decode m_M_isWrong.2.1 84 = .ok (.iconst 1, 1) := by decide +kernel
theorem D_M_isWrong_85 : decode m_M_isWrong.2.1 85 = .ok (.goto 4, 3) := by decide +kernel
theorem D_M_isWrong_88 : decode m_M_isWrong.2.1 88 = .ok (.iconst 0, 1) := by decide +kernel
theorem D_M_isWrong_89 : decode m_M_isWrong.2.1 89 = .ok (.ireturn, 1) := by decide +kernel
theorem D_M_meet_0 : decode m_M_meet.2.1 0 = .ok (.aload_n 0, 1) := by decide +kernel
theorem D_M_meet_1 : decode m_M_meet.2.1 1 = .ok (.dup, 1) := by decide +kernel
theorem D_M_meet_2 : decode m_M_meet.2.1 2 = .ok (.getfield 140, 3) := by decide +kernel
theorem D_M_meet_5 : decode m_M_meet.2.1 5 = .ok (.iconst 1, 1) := by decide +kernel
theorem D_M_meet_6 : decode m_M_meet.2.1 6 = .ok (.iadd, 1) := by decide +kernel
theorem D_M_meet_7 : decode m_M_meet.2.1 7 = .ok (.putfield 140, 3) := by decide +kernel
theorem D_M_meet_10 : decode m_M_meet.2.1 10 = .ok (.aload_n 0, 1) := by decide +kernel
theorem D_M_meet_11 : decode m_M_meet.2.1 11 = .ok (.iload_n 1, 1) := by decide +kernel
theorem D_M_meet_12 : decode m_M_meet.2.1 12 = .ok (.invokevirtual 143, 3) := by decide +kernel
theorem D_M_meet_15 : decode m_M_meet.2.1 15 = .ok (.ifCond .ne 4, 3) := by decide +kernel
theorem D_M_meet_18 : decode m_M_meet.2.1 18 = .ok (.return_, 1) := by decide +kernel
theorem D_M_meet_19 : decode m_M_meet.2.1 19 = .ok (.aload_n 0, 1) := by decide +kernel
theorem D_M_meet_20 : decode m_M_meet.2.1 20 = .ok (.dup, 1) := by decide +kernel
theorem D_M_meet_21 : decode m_M_meet.2.1 21 = .ok (.getfield 147, 3) := by decide +kernel
theorem D_M_meet_24 : decode m_M_meet.2.1 24 = .ok (.iconst 1, 1) := by decide +kernel
theorem D_M_meet_25 : decode m_M_meet.2.1 25 = .ok (.iadd, 1) := by decide +kernel
theorem D_M_meet_26 : decode m_M_meet.2.1 26 = .ok (.putfield 147, 3) := by decide +kernel
theorem D_M_meet_29 : decode m_M_meet.2.1 29 = .ok (.iconst 0, 1) := by decide +kernel
theorem D_M_meet_30 : decode m_M_meet.2.1 30 = .ok (.istore_n 2, 1) := by decide +kernel
theorem D_M_meet_31 : decode m_M_meet.2.1 31 = .ok (.iconst 0, 1) := by decide +kernel
theorem D_M_meet_32 : decode m_M_meet.2.1 32 = .ok (.istore_n 3, 1) := by decide +kernel
theorem D_M_meet_33 : decode m_M_meet.2.1 33 = .ok (.iconst 0, 1) := by decide +kernel
theorem D_M_meet_34 : decode m_M_meet.2.1 34 = .ok (.istore 4, 2) := by decide +kernel
theorem D_M_meet_36 : decode m_M_meet.2.1 36 = .ok (.iload 4, 2) := by decide +kernel
theorem D_M_meet_38 : decode m_M_meet.2.1 38 = .ok (.iload_n 1, 1) := by decide +kernel
theorem D_M_meet_39 : decode m_M_meet.2.1 39 = .ok (.if_icmp .ge 35, 3) := by decide +kernel
theorem D_M_meet_42 : decode m_M_meet.2.1 42 = .ok (.iload_n 2, 1) := by decide +kernel
theorem D_M_meet_43 : decode m_M_meet.2.1 43 = .ok (.iconst 1, 1) := by decide +kernel
theorem D_M_meet_44 : decode m_M_meet.2.1 44 = .ok (.aload_n 0, 1) := by decide +kernel
theorem D_M_meet_45 : decode m_M_meet.2.1 45 = .ok (.getfield 42, 3) := by decide +kernel
theorem D_M_meet_48 : decode m_M_meet.2.1 48 = .ok (.iload 4, 2) := by decide +kernel
theorem D_M_meet_50 : decode m_M_meet.2.1 50 = .ok (.iaload, 1) := by decide +kernel
theorem D_M_meet_51 : decode m_M_meet.2.1 51 = .ok (.ishl, 1) := by decide +kernel
theorem D_M_meet_52 : decode m_M_meet.2.1 52 = .ok (.ior, 1) := by decide +kernel
theorem D_M_meet_53 : decode m_M_meet.2.1 53 = .ok (.istore_n 2, 1) := by decide +kernel
theorem D_M_meet_54 : decode m_M_meet.2.1 54 = .ok (.iload_n 3, 1) := by decide +kernel
theorem D_M_meet_55 : decode m_M_meet.2.1 55 = .ok (.iconst 1, 1) := by decide +kernel
theorem D_M_meet_56 : decode m_M_meet.2.1 56 = .ok (.aload_n 0, 1) := by decide +kernel
theorem D_M_meet_57 : decode m_M_meet.2.1 57 = .ok (.getfield 42, 3) := by decide +kernel
theorem D_M_meet_60 : decode m_M_meet.2.1 60 = .ok (.iload 4, 2) := by decide +kernel
theorem D_M_meet_62 : decode m_M_meet.2.1 62 = .ok (.iconst 1, 1) := by decide +kernel
theorem D_M_meet_63 : decode m_M_meet.2.1 63 = .ok (.iadd, 1) := by decide +kernel
theorem D_M_meet_64 : decode m_M_meet.2.1 64 = .ok (.iaload, 1) := by decide +kernel
theorem D_M_meet_65 : decode m_M_meet.2.1 65 = .ok (.ishl, 1) := by decide +kernel
theorem D_M_meet_66 : decode m_M_meet.2.1 66 = .ok (.ior, 1) := by decide +kernel
theorem D_M_meet_67 : decode m_M_meet.2.1 67 = .ok (.istore_n 3, 1) := by decide +kernel
theorem D_M_meet_68 : decode m_M_meet.2.1 68 = .ok (.iinc 4 2, 3) := by decide +kernel
theorem D_M_meet_71 : decode m_M_meet.2.1 71 = .ok (.goto (-35), 3) := by decide +kernel
theorem D_M_meet_74 : decode m_M_meet.2.1 74 = .ok (.aload_n 0, 1) := by decide +kernel
theorem D_M_meet_75 : decode m_M_meet.2.1 75 = .ok (.getfield 147, 3) := by decide +kernel
theorem D_M_meet_78 : decode m_M_meet.2.1 78 = .ok (.iconst 1, 1) := by decide +kernel
theorem D_M_meet_79 : decode m_M_meet.2.1 79 = .ok (.if_icmp .eq 27, 3) := by decide +kernel
theorem D_M_meet_82 : decode m_M_meet.2.1 82 = .ok (.iload_n 2, 1) := by decide +kernel
theorem D_M_meet_83 : decode m_M_meet.2.1 83 = .ok (.aload_n 0, 1) := by decide +kernel
theorem D_M_meet_84 : decode m_M_meet.2.1 84 = .ok (.getfield 150, 3) := by decide +kernel
theorem D_M_meet_87 : decode m_M_meet.2.1 87 = .ok (.if_icmp .lt 19, 3) := by decide +kernel
theorem D_M_meet_90 : decode m_M_meet.2.1 90 = .ok (.iload_n 2, 1) := by decide +kernel
theorem D_M_meet_91 : decode m_M_meet.2.1 91 = .ok (.aload_n 0, 1) := by decide +kernel
theorem D_M_meet_92 : decode m_M_meet.2.1 92 = .ok (.getfield 150, 3) := by decide +kernel
theorem D_M_meet_95 : decode m_M_meet.2.1 95 = .ok (.if_icmp .ne 21, 3) := by decide +kernel
theorem D_M_meet_98 : decode m_M_meet.2.1 98 = .ok (.iload_n 3, 1) := by decide +kernel
theorem D_M_meet_99 : decode m_M_meet.2.1 99 = .ok (.aload_n 0, 1) := by decide +kernel
theorem D_M_meet_100 : decode m_M_meet.2.1 100 = .ok (.getfield 153, 3) := by decide +kernel
theorem D_M_meet_103 : decode m_M_meet.2.1 103 = .ok (.if_icmp .ge 13, 3) := by decide +kernel
theorem D_M_meet_106 : decode m_M_meet.2.1 106 = .ok (.aload_n 0, 1) := by decide +kernel
theorem D_M_meet_107 : decode m_M_meet.2.1 107 = .ok (.iload_n 2, 1) := by decide +kernel
theorem D_M_meet_108 : decode m_M_meet.2.1 108 = .ok (.putfield 150, 3) := by decide +kernel
theorem D_M_meet_111 : decode m_M_meet.2.1 111 = .ok (.aload_n 0, 1) := by decide +kernel
theorem D_M_meet_112 : decode m_M_meet.2.1 112 = .ok (.iload_n 3, 1) := by decide +kernel
theorem D_M_meet_113 : decode m_M_meet.2.1 113 = .ok (.putfield 153, 3) := by decide +kernel
theorem D_M_meet_116 : decode m_M_meet.2.1 116 = .ok (.return_, 1) := by decide +kernel
theorem D_M_canStand_0 : decode m_M_canStand.2.1 0 = .ok (.iload_n 1, 1) := by decide +kernel
theorem D_M_canStand_1 : decode m_M_canStand.2.1 1 = .ok (.iconst 2, 1) := by decide +kernel
theorem D_M_canStand_2 : decode m_M_canStand.2.1 2 = .ok (.irem, 1) := by decide +kernel
theorem D_M_canStand_3 : decode m_M_canStand.2.1 3 = .ok (.iconst 1, 1) := by decide +kernel
theorem D_M_canStand_4 : decode m_M_canStand.2.1 4 = .ok (.if_icmp .ne 27, 3) := by decide +kernel
theorem D_M_canStand_7 : decode m_M_canStand.2.1 7 = .ok (.aload_n 0, 1) := by decide +kernel
theorem D_M_canStand_8 : decode m_M_canStand.2.1 8 = .ok (.aload_n 0, 1) := by decide +kernel
theorem D_M_canStand_9 : decode m_M_canStand.2.1 9 = .ok (.getfield 42, 3) := by decide +kernel
theorem D_M_canStand_12 : decode m_M_canStand.2.1 12 = .ok (.iload_n 1, 1) := by decide +kernel
theorem D_M_canStand_13 : decode m_M_canStand.2.1 13 = .ok (.iconst 1, 1) := by decide +kernel
theorem D_M_canStand_14 : decode m_M_canStand.2.1 14 = .ok (.isub, 1) := by decide +kernel
theorem D_M_canStand_15 : decode m_M_canStand.2.1 15 = .ok (.iaload, 1) := by decide +kernel
theorem D_M_canStand_16 : decode m_M_canStand.2.1 16 = .ok (.iload_n 2, 1) := by decide +kernel
theorem D_M_canStand_17 : decode m_M_canStand.2.1 17 = .ok (.invokevirtual 67, 3) := by decide +kernel
theorem D_M_canStand_20 : decode m_M_canStand.2.1 20 = .ok (.ifCond .le 7, 3) := by decide +kernel
theorem D_M_canStand_23 : decode m_M_canStand.2.1 23 = .ok (.iconst 1, 1) := by decide +kernel
theorem D_M_canStand_24 : decode m_M_canStand.2.1 24 = .ok (.goto 42, 3) := by decide +kernel
theorem D_M_canStand_27 : decode m_M_canStand.2.1 27 = .ok (.iconst 0, 1) := by decide +kernel
theorem D_M_canStand_28 : decode m_M_canStand.2.1 28 = .ok (.goto 38, 3) := by decide +kernel
theorem D_M_canStand_31 : decode m_M_canStand.2.1 31 = .ok (.iload_n 1, 1) := by decide +kernel
theorem D_M_canStand_32 : decode m_M_canStand.2.1 32 = .ok (.ifCond .eq 29, 3) := by decide +kernel
theorem D_M_canStand_35 : decode m_M_canStand.2.1 35 = .ok (.iload_n 2, 1) := by decide +kernel
theorem D_M_canStand_36 : decode m_M_canStand.2.1 36 = .ok (.aload_n 0, 1) := by decide +kernel
theorem D_M_canStand_37 : decode m_M_canStand.2.1 37 = .ok (.getfield 42, 3) := by decide +kernel
theorem D_M_canStand_40 : decode m_M_canStand.2.1 40 = .ok (.iconst 0, 1) := by decide +kernel
theorem D_M_canStand_41 : decode m_M_canStand.2.1 41 = .ok (.iaload, 1) := by decide +kernel
theorem D_M_canStand_42 : decode m_M_canStand.2.1 42 = .ok (.if_icmp .le 23, 3) := by decide +kernel
theorem D_M_canStand_45 : decode m_M_canStand.2.1 45 = .ok (.aload_n 0, 1) := by decide +kernel
theorem D_M_canStand_46 : decode m_M_canStand.2.1 46 = .ok (.iload_n 2, 1) := by decide +kernel
theorem D_M_canStand_47 : decode m_M_canStand.2.1 47 = .ok (.aload_n 0, 1) := by decide +kernel
theorem D_M_canStand_48 : decode m_M_canStand.2.1 48 = .ok (.getfield 42, 3) := by decide +kernel
theorem D_M_canStand_51 : decode m_M_canStand.2.1 51 = .ok (.iload_n 1, 1) := by decide +kernel
theorem D_M_canStand_52 : decode m_M_canStand.2.1 52 = .ok (.iconst 1, 1) := by decide +kernel
theorem D_M_canStand_53 : decode m_M_canStand.2.1 53 = .ok (.isub, 1) := by decide +kernel
theorem D_M_canStand_54 : decode m_M_canStand.2.1 54 = .ok (.iaload, 1) := by decide +kernel
theorem D_M_canStand_55 : decode m_M_canStand.2.1 55 = .ok (.invokevirtual 67, 3) := by decide +kernel
theorem D_M_canStand_58 : decode m_M_canStand.2.1 58 = .ok (.ifCond .le 7, 3) := by decide +kernel
theorem D_M_canStand_61 : decode m_M_canStand.2.1 61 = .ok (.iconst 1, 1) := by decide +kernel
theorem D_M_canStand_62 : decode m_M_canStand.2.1 62 = .ok (.goto 4, 3) := by decide +kernel
theorem D_M_canStand_65 : decode m_M_canStand.2.1 65 = .ok (.iconst 0, 1) := by decide +kernel
theorem D_M_canStand_66 : decode m_M_canStand.2.1 66 = .ok (.istore_n 3, 1) := by decide +kernel
theorem D_M_canStand_67 : decode m_M_canStand.2.1 67 = .ok (.iload_n 1, 1) := by decide +kernel
theorem D_M_canStand_68 : decode m_M_canStand.2.1 68 = .ok (.iconst 2, 1) := by decide +kernel
theorem D_M_canStand_69 : decode m_M_canStand.2.1 69 = .ok (.isub, 1) := by decide +kernel
theorem D_M_canStand_70 : decode m_M_canStand.2.1 70 = .ok (.istore 4, 2) := by decide +kernel
theorem D_M_canStand_72 : decode m_M_canStand.2.1 72 = .ok (.iload 4, 2) := by decide +kernel
theorem D_M_canStand_74 : decode m_M_canStand.2.1 74 = .ok (.ifCond .lt 30, 3) := by decide +kernel
theorem D_M_canStand_77 : decode m_M_canStand.2.1 77 = .ok (.iload_n 3, 1) := by decide +kernel
theorem D_M_canStand_78 : decode m_M_canStand.2.1 78 = .ok (.ifCond .eq 18, 3) := by decide +kernel
theorem D_M_canStand_81 : decode m_M_canStand.2.1 81 = .ok (.aload_n 0, 1) := by decide +kernel
theorem D_M_canStand_82 : decode m_M_canStand.2.1 82 = .ok (.getfield 42, 3) := by decide +kernel
theorem D_M_canStand_85 : decode m_M_canStand.2.1 85 = .ok (.iload 4, 2) := by decide +kernel
theorem D_M_canStand_87 : decode m_M_canStand.2.1 87 = .ok (.iaload, 1) := by decide +kernel
theorem D_M_canStand_88 : decode m_M_canStand.2.1 88 = .ok (.iload_n 2, 1) := by decide +kernel
theorem D_M_canStand_89 : decode m_M_canStand.2.1 89 = .ok (.if_icmp .eq 7, 3) := by decide +kernel
theorem D_M_canStand_92 : decode m_M_canStand.2.1 92 = .ok (.iconst 1, 1) := by decide +kernel
theorem D_M_canStand_93 : decode m_M_canStand.2.1 93 = .ok (.goto 4, 3) := by decide +kernel
theorem D_M_canStand_96 : decode m_M_canStand.2.1 96 = .ok (.iconst 0, 1) := by decide +kernel
theorem D_M_canStand_97 : decode m_M_canStand.2.1 97 = .ok (.istore_n 3, 1) := by decide +kernel
theorem D_M_canStand_98 : decode m_M_canStand.2.1 98 = .ok (.iinc 4 (-2), 3) := by decide +kernel
theorem D_M_canStand_101 : decode m_M_canStand.2.1 101 = .ok (.goto (-29), 3) := by decide +kernel
theorem D_M_canStand_104 : decode m_M_canStand.2.1 104 = .ok (.iload_n 3, 1) := by decide +kernel
theorem D_M_canStand_105 : decode m_M_canStand.2.1 105 = .ok (.ireturn, 1) := by decide +kernel
theorem D_M_goCycles_0 : decode m_M_goCycles.2.1 0 = .ok (.aload_n 0, 1) := by decide +kernel
theorem D_M_goCycles_1 : decode m_M_goCycles.2.1 1 = .ok (.iconst 0, 1) := by decide +kernel
theorem D_M_goCycles_2 : decode m_M_goCycles.2.1 2 = .ok (.putfield 140, 3) := by decide +kernel
theorem D_M_goCycles_5 : decode m_M_goCycles.2.1 5 = .ok (.aload_n 0, 1) := by decide +kernel
theorem D_M_goCycles_6 : decode m_M_goCycles.2.1 6 = .ok (.iconst 0, 1) := by decide +kernel
theorem D_M_goCycles_7 : decode m_M_goCycles.2.1 7 = .ok (.putfield 147, 3) := by decide +kernel
theorem D_M_goCycles_10 : decode m_M_goCycles.2.1 10 = .ok (.iconst 0, 1) := by decide +kernel
theorem D_M_goCycles_11 : decode m_M_goCycles.2.1 11 = .ok (.istore_n 2, 1) := by decide +kernel
theorem D_M_goCycles_12 : decode m_M_goCycles.2.1 12 = .ok (.aload_n 0, 1) := by decide +kernel
theorem D_M_goCycles_13 : decode m_M_goCycles.2.1 13 = .ok (.getfield 42, 3) := by decide +kernel
theorem D_M_goCycles_16 : decode m_M_goCycles.2.1 16 = .ok (.iconst 0, 1) := by decide +kernel
theorem D_M_goCycles_17 : decode m_M_goCycles.2.1 17 = .ok (.iconst (-1), 1) := by decide +kernel
theorem D_M_goCycles_18 : decode m_M_goCycles.2.1 18 = .ok (.iastore, 1) := by decide +kernel
theorem D_M_goCycles_19 : decode m_M_goCycles.2.1 19 = .ok (.iload_n 2, 1) := by decide +kernel
theorem D_M_goCycles_20 : decode m_M_goCycles.2.1 20 = .ok (.ifCond .lt 152, 3) := by decide +kernel
theorem D_M_goCycles_23 : decode m_M_goCycles.2.1 23 = .ok (.iload_n 2, 1) := by decide +kernel
theorem D_M_goCycles_24 : decode m_M_goCycles.2.1 24 = .ok (.iconst 2, 1) := by decide +kernel
theorem D_M_goCycles_25 : decode m_M_goCycles.2.1 25 = .ok (.irem, 1) := by decide +kernel
theorem D_M_goCycles_26 : decode m_M_goCycles.2.1 26 = .ok (.ifCond .ne 13, 3) := by decide +kernel
theorem D_M_goCycles_29 : decode m_M_goCycles.2.1 29 = .ok (.aload_n 0, 1) := by decide +kernel
theorem D_M_goCycles_30 : decode m_M_goCycles.2.1 30 = .ok (.getfield 7, 3) := by decide +kernel
theorem D_M_goCycles_33 : decode m_M_goCycles.2.1 33 = .ok (.bipush 36, 2) := by decide +kernel
theorem D_M_goCycles_35 : decode m_M_goCycles.2.1 35 = .ok (.iaload, 1) := by decide +kernel
theorem D_M_goCycles_36 : decode m_M_goCycles.2.1 36 = .ok (.goto 10, 3) := by decide +kernel
theorem D_M_goCycles_39 : decode m_M_goCycles.2.1 39 = .ok (.aload_n 0, 1) := by decide +kernel
theorem D_M_goCycles_40 : decode m_M_goCycles.2.1 40 = .ok (.getfield 7, 3) := by decide +kernel
theorem D_M_goCycles_43 : decode m_M_goCycles.2.1 43 = .ok (.bipush 37, 2) := by decide +kernel
theorem D_M_goCycles_45 : decode m_M_goCycles.2.1 45 = .ok (.iaload, 1) := by decide +kernel
theorem D_M_goCycles_46 : decode m_M_goCycles.2.1 46 = .ok (.istore_n 3, 1) := by decide +kernel
theorem D_M_goCycles_47 : decode m_M_goCycles.2.1 47 = .ok (.aload_n 0, 1) := by decide +kernel
theorem D_M_goCycles_48 : decode m_M_goCycles.2.1 48 = .ok (.getfield 42, 3) := by decide +kernel
theorem D_M_goCycles_51 : decode m_M_goCycles.2.1 51 = .ok (.iload_n 2, 1) := by decide +kernel
theorem D_M_goCycles_52 : decode m_M_goCycles.2.1 52 = .ok (.dup2, 1) := by decide +kernel
theorem D_M_goCycles_53 : decode m_M_goCycles.2.1 53 = .ok (.iaload, 1) := by decide +kernel
theorem D_M_goCycles_54 : decode m_M_goCycles.2.1 54 = .ok (.iconst 1, 1) := by decide +kernel
theorem D_M_goCycles_55 : decode m_M_goCycles.2.1 55 = .ok (.iadd, 1) := by decide +kernel
theorem D_M_goCycles_56 : decode m_M_goCycles.2.1 56 = .ok (.iastore, 1) := by decide +kernel
theorem D_M_goCycles_57 : decode m_M_goCycles.2.1 57 = .ok (.aload_n 0, 1) := by decide +kernel
theorem D_M_goCycles_58 : decode m_M_goCycles.2.1 58 = .ok (.getfield 42, 3) := by decide +kernel
theorem D_M_goCycles_61 : decode m_M_goCycles.2.1 61 = .ok (.iload_n 2, 1) := by decide +kernel
theorem D_M_goCycles_62 : decode m_M_goCycles.2.1 62 = .ok (.iaload, 1) := by decide +kernel
theorem D_M_goCycles_63 : decode m_M_goCycles.2.1 63 = .ok (.iload_n 3, 1) := by decide +kernel
theorem D_M_goCycles_64 : decode m_M_goCycles.2.1 64 = .ok (.if_icmp .ge 30, 3) := by decide +kernel
theorem D_M_goCycles_67 : decode m_M_goCycles.2.1 67 = .ok (.aload_n 0, 1) := by decide +kernel
theorem D_M_goCycles_68 : decode m_M_goCycles.2.1 68 = .ok (.iload_n 2, 1) := by decide +kernel
theorem D_M_goCycles_69 : decode m_M_goCycles.2.1 69 = .ok (.aload_n 0, 1) := by decide +kernel
theorem D_M_goCycles_70 : decode m_M_goCycles.2.1 70 = .ok (.getfield 42, 3) := by decide +kernel
theorem D_M_goCycles_73 : decode m_M_goCycles.2.1 73 = .ok (.iload_n 2, 1) := by decide +kernel
theorem D_M_goCycles_74 : decode m_M_goCycles.2.1 74 = .ok (.iaload, 1) := by decide +kernel
theorem D_M_goCycles_75 : decode m_M_goCycles.2.1 75 = .ok (.invokevirtual 156, 3) := by decide +kernel
theorem D_M_goCycles_78 : decode m_M_goCycles.2.1 78 = .ok (.ifCond .ne 16, 3) := by decide +kernel
theorem D_M_goCycles_81 : decode m_M_goCycles.2.1 81 = .ok (.aload_n 0, 1) := by decide +kernel
theorem D_M_goCycles_82 : decode m_M_goCycles.2.1 82 = .ok (.getfield 42, 3) := by decide +kernel
theorem D_M_goCycles_85 : decode m_M_goCycles.2.1 85 = .ok (.iload_n 2, 1) := by decide +kernel
theorem D_M_goCycles_86 : decode m_M_goCycles.2.1 86 = .ok (.dup2, 1) := by decide +kernel
theorem D_M_goCycles_87 : decode m_M_goCycles.2.1 87 = .ok (.iaload, 1) := by decide +kernel
theorem D_M_goCycles_88 : decode m_M_goCycles.2.1 88 = .ok (.iconst 1, 1) := by decide +kernel
theorem D_M_goCycles_89 : decode m_M_goCycles.2.1 89 = .ok (.iadd, 1) := by decide +kernel
theorem D_M_goCycles_90 : decode m_M_goCycles.2.1 90 = .ok (.iastore, 1) := by decide +kernel
theorem D_M_goCycles_91 : decode m_M_goCycles.2.1 91 = .ok (.goto (-34), 3) := by decide +kernel
theorem D_M_goCycles_94 : decode m_M_goCycles.2.1 94 = .ok (.aload_n 0, 1) := by decide +kernel
theorem D_M_goCycles_95 : decode m_M_goCycles.2.1 95 = .ok (.getfield 42, 3) := by decide +kernel
theorem D_M_goCycles_98 : decode m_M_goCycles.2.1 98 = .ok (.iload_n 2, 1) := by decide +kernel
theorem D_M_goCycles_99 : decode m_M_goCycles.2.1 99 = .ok (.iaload, 1) := by decide +kernel
theorem D_M_goCycles_100 : decode m_M_goCycles.2.1 100 = .ok (.iload_n 3, 1) := by decide +kernel
theorem D_M_goCycles_101 : decode m_M_goCycles.2.1 101 = .ok (.if_icmp .ne 9, 3) := by decide +kernel
theorem D_M_goCycles_104 : decode m_M_goCycles.2.1 104 = .ok (.iinc 2 (-1), 3) := by decide +kernel
theorem D_M_goCycles_107 : decode m_M_goCycles.2.1 107 = .ok (.goto 62, 3) := by decide +kernel
theorem D_M_goCycles_110 : decode m_M_goCycles.2.1 110 = .ok (.iload_n 2, 1) := by decide +kernel
theorem D_M_goCycles_111 : decode m_M_goCycles.2.1 111 = .ok (.iload_n 1, 1) := by decide +kernel
theorem D_M_goCycles_112 : decode m_M_goCycles.2.1 112 = .ok (.iconst 1, 1) := by decide +kernel
theorem D_M_goCycles_113 : decode m_M_goCycles.2.1 113 = .ok (.isub, 1) := by decide +kernel
theorem D_M_goCycles_114 : decode m_M_goCycles.2.1 114 = .ok (.if_icmp .ge 16, 3) := by decide +kernel
theorem D_M_goCycles_117 : decode m_M_goCycles.2.1 117 = .ok (.iinc 2 1, 3) := by decide +kernel
theorem D_M_goCycles_120 : decode m_M_goCycles.2.1 120 = .ok (.aload_n 0, 1) := by decide +kernel
theorem D_M_goCycles_121 : decode m_M_goCycles.2.1 121 = .ok (.getfield 42, 3) := by decide +kernel
theorem D_M_goCycles_124 : decode m_M_goCycles.2.1 124 = .ok (.iload_n 2, 1) := by decide +kernel
theorem D_M_goCycles_125 : decode m_M_goCycles.2.1 125 = .ok (.iconst (-1), 1) := by decide +kernel
theorem D_M_goCycles_126 : decode m_M_goCycles.2.1 126 = .ok (.iastore, 1) := by decide +kernel
theorem D_M_goCycles_127 : decode m_M_goCycles.2.1 127 = .ok (.goto 42, 3) := by decide +kernel
theorem D_M_goCycles_130 : decode m_M_goCycles.2.1 130 = .ok (.aload_n 0, 1) := by decide +kernel
theorem D_M_goCycles_131 : decode m_M_goCycles.2.1 131 = .ok (.aload_n 0, 1) := by decide +kernel
theorem D_M_goCycles_132 : decode m_M_goCycles.2.1 132 = .ok (.getfield 42, 3) := by decide +kernel
theorem D_M_goCycles_135 : decode m_M_goCycles.2.1 135 = .ok (.iconst 0, 1) := by decide +kernel
theorem D_M_goCycles_136 : decode m_M_goCycles.2.1 136 = .ok (.iaload, 1) := by decide +kernel
theorem D_M_goCycles_137 : decode m_M_goCycles.2.1 137 = .ok (.aload_n 0, 1) := by decide +kernel
theorem D_M_goCycles_138 : decode m_M_goCycles.2.1 138 = .ok (.getfield 42, 3) := by decide +kernel
theorem D_M_goCycles_141 : decode m_M_goCycles.2.1 141 = .ok (.iload_n 2, 1) := by decide +kernel
theorem D_M_goCycles_142 : decode m_M_goCycles.2.1 142 = .ok (.iaload, 1) := by decide +kernel
theorem D_M_goCycles_143 : decode m_M_goCycles.2.1 143 = .ok (.invokevirtual 67, 3) := by decide +kernel
theorem D_M_goCycles_146 : decode m_M_goCycles.2.1 146 = .ok (.ifCond .le 23, 3) := by decide +kernel
theorem D_M_goCycles_149 : decode m_M_goCycles.2.1 149 = .ok (.aload_n 0, 1) := by decide +kernel
theorem D_M_goCycles_150 : decode m_M_goCycles.2.1 150 = .ok (.getfield 42, 3) := by decide +kernel
theorem D_M_goCycles_153 : decode m_M_goCycles.2.1 153 = .ok (.iconst 1, 1) := by decide +kernel
theorem D_M_goCycles_154 : decode m_M_goCycles.2.1 154 = .ok (.iaload, 1) := by decide +kernel
theorem D_M_goCycles_155 : decode m_M_goCycles.2.1 155 = .ok (.aload_n 0, 1) := by decide +kernel
theorem D_M_goCycles_156 : decode m_M_goCycles.2.1 156 = .ok (.getfield 42, 3) := by decide +kernel
theorem D_M_goCycles_159 : decode m_M_goCycles.2.1 159 = .ok (.iload_n 2, 1) := by decide +kernel
theorem D_M_goCycles_160 : decode m_M_goCycles.2.1 160 = .ok (.iaload, 1) := by decide +kernel
theorem D_M_goCycles_161 : decode m_M_goCycles.2.1 161 = .ok (.if_icmp .ge 8, 3) := by decide +kernel
theorem D_M_goCycles_164 : decode m_M_goCycles.2.1 164 = .ok (.aload_n 0, 1) := by decide +kernel
theorem D_M_goCycles_165 : decode m_M_goCycles.2.1 165 = .ok (.iload_n 1, 1) := by decide +kernel
theorem D_M_goCycles_166 : decode m_M_goCycles.2.1 166 = .ok (.invokevirtual 159, 3) := by decide +kernel
theorem D_M_goCycles_169 : decode m_M_goCycles.2.1 169 = .ok (.goto (-150), 3) := by decide +kernel
theorem D_M_goCycles_172 : decode m_M_goCycles.2.1 172 = .ok (.return_, 1) := by decide +kernel
theorem D_M_cycles_0 : decode m_M_cycles.2.1 0 = .ok (.iload_n 1, 1) := by decide +kernel
theorem D_M_cycles_1 : decode m_M_cycles.2.1 1 = .ok (.iconst 4, 1) := by decide +kernel
theorem D_M_cycles_2 : decode m_M_cycles.2.1 2 = .ok (.bipush 12, 2) := by decide +kernel
theorem D_M_cycles_4 : decode m_M_cycles.2.1 4 = .ok (.invokestatic 52, 3) := by decide +kernel
theorem D_M_cycles_7 : decode m_M_cycles.2.1 7 = .ok (.ifCond .eq 19, 3) := by decide +kernel
theorem D_M_cycles_10 : decode m_M_cycles.2.1 10 = .ok (.iload_n 1, 1) := by decide +kernel
theorem D_M_cycles_11 : decode m_M_cycles.2.1 11 = .ok (.iconst 2, 1) := by decide +kernel
theorem D_M_cycles_12 : decode m_M_cycles.2.1 12 = .ok (.irem, 1) := by decide +kernel
theorem D_M_cycles_13 : decode m_M_cycles.2.1 13 = .ok (.iconst 1, 1) := by decide +kernel
theorem D_M_cycles_14 : decode m_M_cycles.2.1 14 = .ok (.if_icmp .eq 12, 3) := by decide +kernel
theorem D_M_cycles_17 : decode m_M_cycles.2.1 17 = .ok (.iload_n 2, 1) := by decide +kernel
theorem D_M_cycles_18 : decode m_M_cycles.2.1 18 = .ok (.iconst 0, 1) := by decide +kernel
theorem D_M_cycles_19 : decode m_M_cycles.2.1 19 = .ok (.iconst 1, 1) := by decide +kernel
theorem D_M_cycles_20 : decode m_M_cycles.2.1 20 = .ok (.invokestatic 52, 3) := by decide +kernel
theorem D_M_cycles_23 : decode m_M_cycles.2.1 23 = .ok (.ifCond .ne 6, 3) := by decide +kernel
theorem D_M_cycles_26 : decode m_M_cycles.2.1 26 = .ok (.bipush (-2), 2) := by decide +kernel
theorem D_M_cycles_28 : decode m_M_cycles.2.1 28 = .ok (.ireturn, 1) := by decide +kernel
theorem D_M_cycles_29 : decode m_M_cycles.2.1 29 = .ok (.aload_n 0, 1) := by decide +kernel
theorem D_M_cycles_30 : decode m_M_cycles.2.1 30 = .ok (.iload_n 1, 1) := by decide +kernel
theorem D_M_cycles_31 : decode m_M_cycles.2.1 31 = .ok (.invokevirtual 162, 3) := by decide +kernel
theorem D_M_cycles_34 : decode m_M_cycles.2.1 34 = .ok (.iload_n 2, 1) := by decide +kernel
theorem D_M_cycles_35 : decode m_M_cycles.2.1 35 = .ok (.ifCond .ne 10, 3) := by decide +kernel
theorem D_M_cycles_38 : decode m_M_cycles.2.1 38 = .ok (.aload_n 0, 1) := by decide +kernel
theorem D_M_cycles_39 : decode m_M_cycles.2.1 39 = .ok (.getfield 140, 3) := by decide +kernel
theorem D_M_cycles_42 : decode m_M_cycles.2.1 42 = .ok (.goto 7, 3) := by decide +kernel
theorem D_M_cycles_45 : decode m_M_cycles.2.1 45 = .ok (.aload_n 0, 1) := by decide +kernel
theorem D_M_cycles_46 : decode m_M_cycles.2.1 46 = .ok (.getfield 147, 3) := by decide +kernel
theorem D_M_cycles_49 : decode m_M_cycles.2.1 49 = .ok (.ireturn, 1) := by decide +kernel
theorem D_M_wrong_0 : decode m_M_wrong.2.1 0 = .ok (.iload_n 1, 1) := by decide +kernel
theorem D_M_wrong_1 : decode m_M_wrong.2.1 1 = .ok (.iconst 0, 1) := by decide +kernel
theorem D_M_wrong_2 : decode m_M_wrong.2.1 2 = .ok (.iconst 2, 1) := by decide +kernel
theorem D_M_wrong_3 : decode m_M_wrong.2.1 3 = .ok (.invokestatic 52, 3) := by decide +kernel
theorem D_M_wrong_6 : decode m_M_wrong.2.1 6 = .ok (.ifCond .ne 6, 3) := by decide +kernel
theorem D_M_wrong_9 : decode m_M_wrong.2.1 9 = .ok (.bipush (-2), 2) := by decide +kernel
theorem D_M_wrong_11 : decode m_M_wrong.2.1 11 = .ok (.ireturn, 1) := by decide +kernel
theorem D_M_wrong_12 : decode m_M_wrong.2.1 12 = .ok (.iconst 4, 1) := by decide +kernel
theorem D_M_wrong_13 : decode m_M_wrong.2.1 13 = .ok (.istore_n 2, 1) := by decide +kernel
theorem D_M_wrong_14 : decode m_M_wrong.2.1 14 = .ok (.iload_n 2, 1) := by decide +kernel
theorem D_M_wrong_15 : decode m_M_wrong.2.1 15 = .ok (.bipush 12, 2) := by decide +kernel
theorem D_M_wrong_17 : decode m_M_wrong.2.1 17 = .ok (.if_icmp .gt 46, 3) := by decide +kernel
theorem D_M_wrong_20 : decode m_M_wrong.2.1 20 = .ok (.aload_n 0, 1) := by decide +kernel
theorem D_M_wrong_21 : decode m_M_wrong.2.1 21 = .ok (.iload_n 2, 1) := by decide +kernel
theorem D_M_wrong_22 : decode m_M_wrong.2.1 22 = .ok (.invokevirtual 162, 3) := by decide +kernel
theorem D_M_wrong_25 : decode m_M_wrong.2.1 25 = .ok (.aload_n 0, 1) := by decide +kernel
theorem D_M_wrong_26 : decode m_M_wrong.2.1 26 = .ok (.getfield 147, 3) := by decide +kernel
theorem D_M_wrong_29 : decode m_M_wrong.2.1 29 = .ok (.ifCond .le 28, 3) := by decide +kernel
theorem D_M_wrong_32 : decode m_M_wrong.2.1 32 = .ok (.iload_n 1, 1) := by decide +kernel
theorem D_M_wrong_33 : decode m_M_wrong.2.1 33 = .ok (.ifCond .ne 7, 3) := by decide +kernel
theorem D_M_wrong_36 : decode m_M_wrong.2.1 36 = .ok (.iload_n 2, 1) := by decide +kernel
theorem D_M_wrong_37 : decode m_M_wrong.2.1 37 = .ok (.goto 19, 3) := by decide +kernel
theorem D_M_wrong_40 : decode m_M_wrong.2.1 40 = .ok (.iload_n 1, 1) := by decide +kernel
theorem D_M_wrong_41 : decode m_M_wrong.2.1 41 = .ok (.iconst 1, 1) := by decide +kernel
theorem D_M_wrong_42 : decode m_M_wrong.2.1 42 = .ok (.if_icmp .ne 10, 3) := by decide +kernel
theorem D_M_wrong_45 : decode m_M_wrong.2.1 45 = .ok (.aload_n 0, 1) := by decide +kernel
theorem D_M_wrong_46 : decode m_M_wrong.2.1 46 = .ok (.getfield 150, 3) := by decide +kernel
theorem D_M_wrong_49 : decode m_M_wrong.2.1 49 = .ok (.goto 7, 3) := by decide +kernel
theorem D_M_wrong_52 : decode m_M_wrong.2.1 52 = .ok (.aload_n 0, 1) := by decide +kernel
theorem D_M_wrong_53 : decode m_M_wrong.2.1 53 = .ok (.getfield 153, 3) := by decide +kernel
theorem D_M_wrong_56 : decode m_M_wrong.2.1 56 = .ok (.ireturn, 1) := by decide +kernel
theorem D_M_wrong_57 : decode m_M_wrong.2.1 57 = .ok (.iinc 2 2, 3) := by decide +kernel
theorem D_M_wrong_60 : decode m_M_wrong.2.1 60 = .ok (.goto (-46), 3) := by decide +kernel
theorem D_M_wrong_63 : decode m_M_wrong.2.1 63 = .ok (.bipush (-6), 2) := by decide +kernel
theorem D_M_wrong_65 : decode m_M_wrong.2.1 65 = .ok (.ireturn, 1) := by decide +kernel
theorem D_M_completions_0 : decode m_M_completions.2.1 0 = .ok (.aload_n 0, 1) := by decide +kernel
theorem D_M_completions_1 : decode m_M_completions.2.1 1 = .ok (.invokevirtual 85, 3) := by decide +kernel
theorem D_M_completions_4 : decode m_M_completions.2.1 4 = .ok (.aload_n 0, 1) := by decide +kernel
theorem D_M_completions_5 : decode m_M_completions.2.1 5 = .ok (.getfield 81, 3) := by decide +kernel
theorem D_M_completions_8 : decode m_M_completions.2.1 8 = .ok (.ifCond .eq 7, 3) := by decide +kernel
theorem D_M_completions_11 : decode m_M_completions.2.1 11 = .ok (.lconst 1, 1) := by decide +kernel
theorem D_M_completions_12 : decode m_M_completions.2.1 12 = .ok (.goto 4, 3) := by decide +kernel
theorem D_M_completions_15 : decode m_M_completions.2.1 15 = .ok (.lconst 0, 1) := by decide +kernel
theorem D_M_completions_16 : decode m_M_completions.2.1 16 = .ok (.lstore_n 1, 1) := by decide +kernel
theorem D_M_completions_17 : decode m_M_completions.2.1 17 = .ok (.iconst 1, 1) := by decide +kernel
theorem D_M_completions_18 : decode m_M_completions.2.1 18 = .ok (.istore_n 3, 1) := by decide +kernel
theorem D_M_completions_19 : decode m_M_completions.2.1 19 = .ok (.iload_n 3, 1) := by decide +kernel
theorem D_M_completions_20 : decode m_M_completions.2.1 20 = .ok (.aload_n 0, 1) := by decide +kernel
theorem D_M_completions_21 : decode m_M_completions.2.1 21 = .ok (.getfield 74, 3) := by decide +kernel
theorem D_M_completions_24 : decode m_M_completions.2.1 24 = .ok (.if_icmp .ge 22, 3) := by decide +kernel
theorem D_M_completions_27 : decode m_M_completions.2.1 27 = .ok (.lload_n 1, 1) := by decide +kernel
theorem D_M_completions_28 : decode m_M_completions.2.1 28 = .ok (.aload_n 0, 1) := by decide +kernel
theorem D_M_completions_29 : decode m_M_completions.2.1 29 = .ok (.getfield 7, 3) := by decide +kernel
theorem D_M_completions_32 : decode m_M_completions.2.1 32 = .ok (.bipush 38, 2) := by decide +kernel
theorem D_M_completions_34 : decode m_M_completions.2.1 34 = .ok (.iaload, 1) := by decide +kernel
theorem D_M_completions_35 : decode m_M_completions.2.1 35 = .ok (.iconst 1, 1) := by decide +kernel
theorem D_M_completions_36 : decode m_M_completions.2.1 36 = .ok (.isub, 1) := by decide +kernel
theorem D_M_completions_37 : decode m_M_completions.2.1 37 = .ok (.i2l, 1) := by decide +kernel
theorem D_M_completions_38 : decode m_M_completions.2.1 38 = .ok (.lmul, 1) := by decide +kernel
theorem D_M_completions_39 : decode m_M_completions.2.1 39 = .ok (.lstore_n 1, 1) := by decide +kernel
theorem D_M_completions_40 : decode m_M_completions.2.1 40 = .ok (.iinc 3 1, 3) := by decide +kernel
theorem D_M_completions_43 : decode m_M_completions.2.1 43 = .ok (.goto (-24), 3) := by decide +kernel
theorem D_M_completions_46 : decode m_M_completions.2.1 46 = .ok (.lload_n 1, 1) := by decide +kernel
theorem D_M_completions_47 : decode m_M_completions.2.1 47 = .ok (.lreturn, 1) := by decide +kernel
theorem D_M_factorOf_0 : decode m_M_factorOf.2.1 0 = .ok (.lload_n 1, 1) := by decide +kernel
theorem D_M_factorOf_1 : decode m_M_factorOf.2.1 1 = .ok (.lstore 4, 2) := by decide +kernel
theorem D_M_factorOf_3 : decode m_M_factorOf.2.1 3 = .ok (.iconst 1, 1) := by decide +kernel
theorem D_M_factorOf_4 : decode m_M_factorOf.2.1 4 = .ok (.istore 6, 2) := by decide +kernel
theorem D_M_factorOf_6 : decode m_M_factorOf.2.1 6 = .ok (.iload 6, 2) := by decide +kernel
theorem D_M_factorOf_8 : decode m_M_factorOf.2.1 8 = .ok (.iload_n 3, 1) := by decide +kernel
theorem D_M_factorOf_9 : decode m_M_factorOf.2.1 9 = .ok (.if_icmp .ge 24, 3) := by decide +kernel
theorem D_M_factorOf_12 : decode m_M_factorOf.2.1 12 = .ok (.lload 4, 2) := by decide +kernel
theorem D_M_factorOf_14 : decode m_M_factorOf.2.1 14 = .ok (.aload_n 0, 1) := by decide +kernel
theorem D_M_factorOf_15 : decode m_M_factorOf.2.1 15 = .ok (.getfield 7, 3) := by decide +kernel
theorem D_M_factorOf_18 : decode m_M_factorOf.2.1 18 = .ok (.bipush 38, 2) := by decide +kernel
theorem D_M_factorOf_20 : decode m_M_factorOf.2.1 20 = .ok (.iaload, 1) := by decide +kernel
theorem D_M_factorOf_21 : decode m_M_factorOf.2.1 21 = .ok (.iconst 1, 1) := by decide +kernel
theorem D_M_factorOf_22 : decode m_M_factorOf.2.1 22 = .ok (.isub, 1) := by decide +kernel
theorem D_M_factorOf_23 : decode m_M_factorOf.2.1 23 = .ok (.i2l, 1) := by decide +kernel
theorem D_M_factorOf_24 : decode m_M_factorOf.2.1 24 = .ok (.ldiv, 1) := by decide +kernel
theorem D_M_factorOf_25 : decode m_M_factorOf.2.1 25 = .ok (.lstore 4, 2) := by decide +kernel
theorem D_M_factorOf_27 : decode m_M_factorOf.2.1 27 = .ok (.iinc 6 1, 3) := by decide +kernel
theorem D_M_factorOf_30 : decode m_M_factorOf.2.1 30 = .ok (.goto (-24), 3) := by decide +kernel
theorem D_M_factorOf_33 : decode m_M_factorOf.2.1 33 = .ok (.iload_n 3, 1) := by decide +kernel
theorem D_M_factorOf_34 : decode m_M_factorOf.2.1 34 = .ok (.ifCond .ne 7, 3) := by decide +kernel
theorem D_M_factorOf_37 : decode m_M_factorOf.2.1 37 = .ok (.iconst 1, 1) := by decide +kernel
theorem D_M_factorOf_38 : decode m_M_factorOf.2.1 38 = .ok (.goto 19, 3) := by decide +kernel
theorem D_M_factorOf_41 : decode m_M_factorOf.2.1 41 = .ok (.iconst 1, 1) := by decide +kernel
theorem D_M_factorOf_42 : decode m_M_factorOf.2.1 42 = .ok (.lload 4, 2) := by decide +kernel
theorem D_M_factorOf_44 : decode m_M_factorOf.2.1 44 = .ok (.aload_n 0, 1) := by decide +kernel
theorem D_M_factorOf_45 : decode m_M_factorOf.2.1 45 = .ok (.getfield 7, 3) := by decide +kernel
theorem D_M_factorOf_48 : decode m_M_factorOf.2.1 48 = .ok (.bipush 38, 2) := by decide +kernel
theorem D_M_factorOf_50 : decode m_M_factorOf.2.1 50 = .ok (.iaload, 1) := by decide +kernel
theorem D_M_factorOf_51 : decode m_M_factorOf.2.1 51 = .ok (.iconst 1, 1) := by decide +kernel
theorem D_M_factorOf_52 : decode m_M_factorOf.2.1 52 = .ok (.isub, 1) := by decide +kernel
theorem D_M_factorOf_53 : decode m_M_factorOf.2.1 53 = .ok (.i2l, 1) := by decide +kernel
theorem D_M_factorOf_54 : decode m_M_factorOf.2.1 54 = .ok (.lrem, 1) := by decide +kernel
theorem D_M_factorOf_55 : decode m_M_factorOf.2.1 55 = .ok (.l2i, 1) := by decide +kernel
theorem D_M_factorOf_56 : decode m_M_factorOf.2.1 56 = .ok (.iadd, 1) := by decide +kernel
theorem D_M_factorOf_57 : decode m_M_factorOf.2.1 57 = .ok (.ireturn, 1) := by decide +kernel
theorem D_M_completed_0 : decode m_M_completed.2.1 0 = .ok (.aload_n 0, 1) := by decide +kernel
theorem D_M_completed_1 : decode m_M_completed.2.1 1 = .ok (.iload_n 3, 1) := by decide +kernel
theorem D_M_completed_2 : decode m_M_completed.2.1 2 = .ok (.iload 4, 2) := by decide +kernel
theorem D_M_completed_4 : decode m_M_completed.2.1 4 = .ok (.invokevirtual 88, 3) := by decide +kernel
theorem D_M_completed_7 : decode m_M_completed.2.1 7 = .ok (.ifCond .eq 18, 3) := by decide +kernel
theorem D_M_completed_10 : decode m_M_completed.2.1 10 = .ok (.lload_n 1, 1) := by decide +kernel
theorem D_M_completed_11 : decode m_M_completed.2.1 11 = .ok (.lconst 0, 1) := by decide +kernel
theorem D_M_completed_12 : decode m_M_completed.2.1 12 = .ok (.lcmp, 1) := by decide +kernel
theorem D_M_completed_13 : decode m_M_completed.2.1 13 = .ok (.ifCond .lt 12, 3) := by decide +kernel
theorem D_M_completed_16 : decode m_M_completed.2.1 16 = .ok (.lload_n 1, 1) := by decide +kernel
theorem D_M_completed_17 : decode m_M_completed.2.1 17 = .ok (.aload_n 0, 1) := by decide +kernel
theorem D_M_completed_18 : decode m_M_completed.2.1 18 = .ok (.invokevirtual 165, 3) := by decide +kernel
theorem D_M_completed_21 : decode m_M_completed.2.1 21 = .ok (.lcmp, 1) := by decide +kernel
theorem D_M_completed_22 : decode m_M_completed.2.1 22 = .ok (.ifCond .lt 5, 3) := by decide +kernel
theorem D_M_completed_25 : decode m_M_completed.2.1 25 = .ok (.iconst (-1), 1) := by decide +kernel
theorem D_M_completed_26 : decode m_M_completed.2.1 26 = .ok (.ireturn, 1) := by decide +kernel
theorem D_M_completed_27 : decode m_M_completed.2.1 27 = .ok (.aload_n 0, 1) := by decide +kernel
theorem D_M_completed_28 : decode m_M_completed.2.1 28 = .ok (.aload_n 0, 1) := by decide +kernel
theorem D_M_completed_29 : decode m_M_completed.2.1 29 = .ok (.getfield 33, 3) := by decide +kernel
theorem D_M_completed_32 : decode m_M_completed.2.1 32 = .ok (.iload_n 3, 1) := by decide +kernel
theorem D_M_completed_33 : decode m_M_completed.2.1 33 = .ok (.iaload, 1) := by decide +kernel
theorem D_M_completed_34 : decode m_M_completed.2.1 34 = .ok (.aload_n 0, 1) := by decide +kernel
theorem D_M_completed_35 : decode m_M_completed.2.1 35 = .ok (.lload_n 1, 1) := by decide +kernel
theorem D_M_completed_36 : decode m_M_completed.2.1 36 = .ok (.aload_n 0, 1) := by decide +kernel
theorem D_M_completed_37 : decode m_M_completed.2.1 37 = .ok (.getfield 27, 3) := by decide +kernel
theorem D_M_completed_40 : decode m_M_completed.2.1 40 = .ok (.iload_n 3, 1) := by decide +kernel
theorem D_M_completed_41 : decode m_M_completed.2.1 41 = .ok (.iaload, 1) := by decide +kernel
theorem D_M_completed_42 : decode m_M_completed.2.1 42 = .ok (.invokevirtual 169, 3) := by decide +kernel
theorem D_M_completed_45 : decode m_M_completed.2.1 45 = .ok (.invokevirtual 63, 3) := by decide +kernel
theorem D_M_completed_48 : decode m_M_completed.2.1 48 = .ok (.istore 5, 2) := by decide +kernel
theorem D_M_completed_50 : decode m_M_completed.2.1 50 = .ok (.aload_n 0, 1) := by decide +kernel
theorem D_M_completed_51 : decode m_M_completed.2.1 51 = .ok (.aload_n 0, 1) := by decide +kernel
theorem D_M_completed_52 : decode m_M_completed.2.1 52 = .ok (.getfield 36, 3) := by decide +kernel
theorem D_M_completed_55 : decode m_M_completed.2.1 55 = .ok (.iload 4, 2) := by decide +kernel
theorem D_M_completed_57 : decode m_M_completed.2.1 57 = .ok (.iaload, 1) := by decide +kernel
theorem D_M_completed_58 : decode m_M_completed.2.1 58 = .ok (.aload_n 0, 1) := by decide +kernel
theorem D_M_completed_59 : decode m_M_completed.2.1 59 = .ok (.aload_n 0, 1) := by decide +kernel
theorem D_M_completed_60 : decode m_M_completed.2.1 60 = .ok (.lload_n 1, 1) := by decide +kernel
theorem D_M_completed_61 : decode m_M_completed.2.1 61 = .ok (.aload_n 0, 1) := by decide +kernel
theorem D_M_completed_62 : decode m_M_completed.2.1 62 = .ok (.getfield 30, 3) := by decide +kernel
theorem D_M_completed_65 : decode m_M_completed.2.1 65 = .ok (.iload 4, 2) := by decide +kernel
theorem D_M_completed_67 : decode m_M_completed.2.1 67 = .ok (.iaload, 1) := by decide +kernel
theorem D_M_completed_68 : decode m_M_completed.2.1 68 = .ok (.invokevirtual 169, 3) := by decide +kernel
theorem D_M_completed_71 : decode m_M_completed.2.1 71 = .ok (.invokevirtual 70, 3) := by decide +kernel
theorem D_M_completed_74 : decode m_M_completed.2.1 74 = .ok (.invokevirtual 63, 3) := by decide +kernel
theorem D_M_completed_77 : decode m_M_completed.2.1 77 = .ok (.istore 6, 2) := by decide +kernel
theorem D_M_completed_79 : decode m_M_completed.2.1 79 = .ok (.aload_n 0, 1) := by decide +kernel
theorem D_M_completed_80 : decode m_M_completed.2.1 80 = .ok (.iload 5, 2) := by decide +kernel
theorem D_M_completed_82 : decode m_M_completed.2.1 82 = .ok (.iload 6, 2) := by decide +kernel
theorem D_M_completed_84 : decode m_M_completed.2.1 84 = .ok (.invokevirtual 63, 3) := by decide +kernel
theorem D_M_completed_87 : decode m_M_completed.2.1 87 = .ok (.ireturn, 1) := by decide +kernel
theorem D_M_isWellIf_0 : decode m_M_isWellIf.2.1 0 = .ok (.aload_n 0, 1) := by decide +kernel
theorem D_M_isWellIf_1 : decode m_M_isWellIf.2.1 1 = .ok (.iload_n 1, 1) := by decide +kernel
theorem D_M_isWellIf_2 : decode m_M_isWellIf.2.1 2 = .ok (.iload_n 2, 1) := by decide +kernel
theorem D_M_isWellIf_3 : decode m_M_isWellIf.2.1 3 = .ok (.invokevirtual 88, 3) := by decide +kernel
theorem D_M_isWellIf_6 : decode m_M_isWellIf.2.1 6 = .ok (.ifCond .ne 5, 3) := by decide +kernel
theorem D_M_isWellIf_9 : decode m_M_isWellIf.2.1 9 = .ok (.iconst (-1), 1) := by decide +kernel
theorem D_M_isWellIf_10 : decode m_M_isWellIf.2.1 10 = .ok (.ireturn, 1) := by decide +kernel
theorem D_M_isWellIf_11 : decode m_M_isWellIf.2.1 11 = .ok (.iload_n 3, 1) := by decide +kernel
theorem D_M_isWellIf_12 : decode m_M_isWellIf.2.1 12 = .ok (.iconst 0, 1) := by decide +kernel
theorem D_M_isWellIf_13 : decode m_M_isWellIf.2.1 13 = .ok (.aload_n 0, 1) := by decide +kernel
theorem D_M_isWellIf_14 : decode m_M_isWellIf.2.1 14 = .ok (.getfield 7, 3) := by decide +kernel
theorem D_M_isWellIf_17 : decode m_M_isWellIf.2.1 17 = .ok (.bipush 38, 2) := by decide +kernel
theorem D_M_isWellIf_19 : decode m_M_isWellIf.2.1 19 = .ok (.iaload, 1) := by decide +kernel
theorem D_M_isWellIf_20 : decode m_M_isWellIf.2.1 20 = .ok (.iconst 1, 1) := by decide +kernel
theorem D_M_isWellIf_21 : decode m_M_isWellIf.2.1 21 = .ok (.isub, 1) := by decide +kernel
theorem D_M_isWellIf_22 : decode m_M_isWellIf.2.1 22 = .ok (.invokestatic 52, 3) := by decide +kernel
theorem D_M_isWellIf_25 : decode m_M_isWellIf.2.1 25 = .ok (.ifCond .ne 6, 3) := by decide +kernel
theorem D_M_isWellIf_28 : decode m_M_isWellIf.2.1 28 = .ok (.bipush (-2), 2) := by decide +kernel
theorem D_M_isWellIf_30 : decode m_M_isWellIf.2.1 30 = .ok (.ireturn, 1) := by decide +kernel
theorem D_M_isWellIf_31 : decode m_M_isWellIf.2.1 31 = .ok (.aload_n 0, 1) := by decide +kernel
theorem D_M_isWellIf_32 : decode m_M_isWellIf.2.1 32 = .ok (.bipush 6, 2) := by decide +kernel
theorem D_M_isWellIf_34 : decode m_M_isWellIf.2.1 34 = .ok (.iload_n 1, 1) := by decide +kernel
theorem D_M_isWellIf_35 : decode m_M_isWellIf.2.1 35 = .ok (.imul, 1) := by decide +kernel
theorem D_M_isWellIf_36 : decode m_M_isWellIf.2.1 36 = .ok (.iload_n 2, 1) := by decide +kernel
theorem D_M_isWellIf_37 : decode m_M_isWellIf.2.1 37 = .ok (.iadd, 1) := by decide +kernel
theorem D_M_isWellIf_38 : decode m_M_isWellIf.2.1 38 = .ok (.iload_n 3, 1) := by decide +kernel
theorem D_M_isWellIf_39 : decode m_M_isWellIf.2.1 39 = .ok (.invokevirtual 173, 3) := by decide +kernel
theorem D_M_isWellIf_42 : decode m_M_isWellIf.2.1 42 = .ok (.ifCond .eq 7, 3) := by decide +kernel
theorem D_M_isWellIf_45 : decode m_M_isWellIf.2.1 45 = .ok (.iconst 1, 1) := by decide +kernel
theorem D_M_isWellIf_46 : decode m_M_isWellIf.2.1 46 = .ok (.goto 4, 3) := by decide +kernel
theorem D_M_isWellIf_49 : decode m_M_isWellIf.2.1 49 = .ok (.iconst 0, 1) := by decide +kernel
theorem D_M_isWellIf_50 : decode m_M_isWellIf.2.1 50 = .ok (.ireturn, 1) := by decide +kernel
theorem D_M_spoilers_0 : decode m_M_spoilers.2.1 0 = .ok (.aload_n 0, 1) := by decide +kernel
theorem D_M_spoilers_1 : decode m_M_spoilers.2.1 1 = .ok (.invokevirtual 85, 3) := by decide +kernel
theorem D_M_spoilers_4 : decode m_M_spoilers.2.1 4 = .ok (.aload_n 0, 1) := by decide +kernel
theorem D_M_spoilers_5 : decode m_M_spoilers.2.1 5 = .ok (.getfield 81, 3) := by decide +kernel
theorem D_M_spoilers_8 : decode m_M_spoilers.2.1 8 = .ok (.ifCond .eq 7, 3) := by decide +kernel
theorem D_M_spoilers_11 : decode m_M_spoilers.2.1 11 = .ok (.ldc2_w 176, 3) := by decide +kernel
theorem D_M_spoilers_14 : decode m_M_spoilers.2.1 14 = .ok (.lreturn, 1) := by decide +kernel
theorem D_M_spoilers_15 : decode m_M_spoilers.2.1 15 = .ok (.lconst 0, 1) := by decide +kernel
theorem D_M_spoilers_16 : decode m_M_spoilers.2.1 16 = .ok (.lstore_n 1, 1) := by decide +kernel
theorem D_M_spoilers_17 : decode m_M_spoilers.2.1 17 = .ok (.iconst 0, 1) := by decide +kernel
theorem D_M_spoilers_18 : decode m_M_spoilers.2.1 18 = .ok (.istore_n 3, 1) := by decide +kernel
theorem D_M_spoilers_19 : decode m_M_spoilers.2.1 19 = .ok (.iload_n 3, 1) := by decide +kernel
theorem D_M_spoilers_20 : decode m_M_spoilers.2.1 20 = .ok (.bipush 36, 2) := by decide +kernel
theorem D_M_spoilers_22 : decode m_M_spoilers.2.1 22 = .ok (.if_icmp .ge 49, 3) := by decide +kernel
theorem D_M_spoilers_25 : decode m_M_spoilers.2.1 25 = .ok (.aload_n 0, 1) := by decide +kernel
theorem D_M_spoilers_26 : decode m_M_spoilers.2.1 26 = .ok (.getfield 7, 3) := by decide +kernel
theorem D_M_spoilers_29 : decode m_M_spoilers.2.1 29 = .ok (.iload_n 3, 1) := by decide +kernel
theorem D_M_spoilers_30 : decode m_M_spoilers.2.1 30 = .ok (.iaload, 1) := by decide +kernel
theorem D_M_spoilers_31 : decode m_M_spoilers.2.1 31 = .ok (.ifCond .le 16, 3) := by decide +kernel
theorem D_M_spoilers_34 : decode m_M_spoilers.2.1 34 = .ok (.aload_n 0, 1) := by decide +kernel
theorem D_M_spoilers_35 : decode m_M_spoilers.2.1 35 = .ok (.iload_n 3, 1) := by decide +kernel
theorem D_M_spoilers_36 : decode m_M_spoilers.2.1 36 = .ok (.iconst 0, 1) := by decide +kernel
theorem D_M_spoilers_37 : decode m_M_spoilers.2.1 37 = .ok (.invokevirtual 173, 3) := by decide +kernel
theorem D_M_spoilers_40 : decode m_M_spoilers.2.1 40 = .ok (.ifCond .eq 7, 3) := by decide +kernel
theorem D_M_spoilers_43 : decode m_M_spoilers.2.1 43 = .ok (.iconst 1, 1) := by decide +kernel
theorem D_M_spoilers_44 : decode m_M_spoilers.2.1 44 = .ok (.goto 4, 3) := by decide +kernel
theorem D_M_spoilers_47 : decode m_M_spoilers.2.1 47 = .ok (.iconst 0, 1) := by decide +kernel
theorem D_M_spoilers_48 : decode m_M_spoilers.2.1 48 = .ok (.istore 4, 2) := by decide +kernel
theorem D_M_spoilers_50 : decode m_M_spoilers.2.1 50 = .ok (.lload_n 1, 1) := by decide +kernel
theorem D_M_spoilers_51 : decode m_M_spoilers.2.1 51 = .ok (.iload 4, 2) := by decide +kernel
theorem D_M_spoilers_53 : decode m_M_spoilers.2.1 53 = .ok (.ifCond .eq 9, 3) := by decide +kernel
theorem D_M_spoilers_56 : decode m_M_spoilers.2.1 56 = .ok (.lconst 1, 1) := by decide +kernel
theorem D_M_spoilers_57 : decode m_M_spoilers.2.1 57 = .ok (.iload_n 3, 1) := by decide +kernel
theorem D_M_spoilers_58 : decode m_M_spoilers.2.1 58 = .ok (.lshl, 1) := by decide +kernel
theorem D_M_spoilers_59 : decode m_M_spoilers.2.1 59 = .ok (.goto 4, 3) := by decide +kernel
theorem D_M_spoilers_62 : decode m_M_spoilers.2.1 62 = .ok (.lconst 0, 1) := by decide +kernel
theorem D_M_spoilers_63 : decode m_M_spoilers.2.1 63 = .ok (.lor, 1) := by decide +kernel
theorem D_M_spoilers_64 : decode m_M_spoilers.2.1 64 = .ok (.lstore_n 1, 1) := by decide +kernel
theorem D_M_spoilers_65 : decode m_M_spoilers.2.1 65 = .ok (.iinc 3 1, 3) := by decide +kernel
theorem D_M_spoilers_68 : decode m_M_spoilers.2.1 68 = .ok (.goto (-49), 3) := by decide +kernel
theorem D_M_spoilers_71 : decode m_M_spoilers.2.1 71 = .ok (.lload_n 1, 1) := by decide +kernel
theorem D_M_spoilers_72 : decode m_M_spoilers.2.1 72 = .ok (.lreturn, 1) := by decide +kernel
theorem D_M_bits_0 : decode m_M_bits.2.1 0 = .ok (.iconst 0, 1) := by decide +kernel
theorem D_M_bits_1 : decode m_M_bits.2.1 1 = .ok (.istore_n 1, 1) := by decide +kernel
theorem D_M_bits_2 : decode m_M_bits.2.1 2 = .ok (.iconst 0, 1) := by decide +kernel
theorem D_M_bits_3 : decode m_M_bits.2.1 3 = .ok (.istore_n 2, 1) := by decide +kernel
theorem D_M_bits_4 : decode m_M_bits.2.1 4 = .ok (.iload_n 2, 1) := by decide +kernel
theorem D_M_bits_5 : decode m_M_bits.2.1 5 = .ok (.bipush 6, 2) := by decide +kernel
theorem D_M_bits_7 : decode m_M_bits.2.1 7 = .ok (.if_icmp .ge 17, 3) := by decide +kernel
theorem D_M_bits_10 : decode m_M_bits.2.1 10 = .ok (.iload_n 1, 1) := by decide +kernel
theorem D_M_bits_11 : decode m_M_bits.2.1 11 = .ok (.iload_n 0, 1) := by decide +kernel
theorem D_M_bits_12 : decode m_M_bits.2.1 12 = .ok (.iload_n 2, 1) := by decide +kernel
theorem D_M_bits_13 : decode m_M_bits.2.1 13 = .ok (.ishr, 1) := by decide +kernel
theorem D_M_bits_14 : decode m_M_bits.2.1 14 = .ok (.iconst 1, 1) := by decide +kernel
theorem D_M_bits_15 : decode m_M_bits.2.1 15 = .ok (.iand, 1) := by decide +kernel
theorem D_M_bits_16 : decode m_M_bits.2.1 16 = .ok (.iadd, 1) := by decide +kernel
theorem D_M_bits_17 : decode m_M_bits.2.1 17 = .ok (.istore_n 1, 1) := by decide +kernel
theorem D_M_bits_18 : decode m_M_bits.2.1 18 = .ok (.iinc 2 1, 3) := by decide +kernel
theorem D_M_bits_21 : decode m_M_bits.2.1 21 = .ok (.goto (-17), 3) := by decide +kernel
theorem D_M_bits_24 : decode m_M_bits.2.1 24 = .ok (.iload_n 1, 1) := by decide +kernel
theorem D_M_bits_25 : decode m_M_bits.2.1 25 = .ok (.ireturn, 1) := by decide +kernel
theorem D_M_gain_0 : decode m_M_gain.2.1 0 = .ok (.iload_n 1, 1) := by decide +kernel
theorem D_M_gain_1 : decode m_M_gain.2.1 1 = .ok (.iload_n 2, 1) := by decide +kernel
theorem D_M_gain_2 : decode m_M_gain.2.1 2 = .ok (.if_icmp .ne 7, 3) := by decide +kernel
theorem D_M_gain_5 : decode m_M_gain.2.1 5 = .ok (.iconst 0, 1) := by decide +kernel
theorem D_M_gain_6 : decode m_M_gain.2.1 6 = .ok (.goto 38, 3) := by decide +kernel
theorem D_M_gain_9 : decode m_M_gain.2.1 9 = .ok (.aload_n 0, 1) := by decide +kernel
theorem D_M_gain_10 : decode m_M_gain.2.1 10 = .ok (.iload_n 1, 1) := by decide +kernel
theorem D_M_gain_11 : decode m_M_gain.2.1 11 = .ok (.invokevirtual 101, 3) := by decide +kernel
theorem D_M_gain_14 : decode m_M_gain.2.1 14 = .ok (.invokestatic 178, 3) := by decide +kernel
theorem D_M_gain_17 : decode m_M_gain.2.1 17 = .ok (.aload_n 0, 1) := by decide +kernel
theorem D_M_gain_18 : decode m_M_gain.2.1 18 = .ok (.iload_n 2, 1) := by decide +kernel
theorem D_M_gain_19 : decode m_M_gain.2.1 19 = .ok (.invokevirtual 104, 3) := by decide +kernel
theorem D_M_gain_22 : decode m_M_gain.2.1 22 = .ok (.invokestatic 178, 3) := by decide +kernel
theorem D_M_gain_25 : decode m_M_gain.2.1 25 = .ok (.imul, 1) := by decide +kernel
theorem D_M_gain_26 : decode m_M_gain.2.1 26 = .ok (.aload_n 0, 1) := by decide +kernel
theorem D_M_gain_27 : decode m_M_gain.2.1 27 = .ok (.iload_n 2, 1) := by decide +kernel
theorem D_M_gain_28 : decode m_M_gain.2.1 28 = .ok (.invokevirtual 101, 3) := by decide +kernel
theorem D_M_gain_31 : decode m_M_gain.2.1 31 = .ok (.invokestatic 178, 3) := by decide +kernel
theorem D_M_gain_34 : decode m_M_gain.2.1 34 = .ok (.aload_n 0, 1) := by decide +kernel
theorem D_M_gain_35 : decode m_M_gain.2.1 35 = .ok (.iload_n 1, 1) := by decide +kernel
theorem D_M_gain_36 : decode m_M_gain.2.1 36 = .ok (.invokevirtual 104, 3) := by decide +kernel
theorem D_M_gain_39 : decode m_M_gain.2.1 39 = .ok (.invokestatic 178, 3) := by decide +kernel
theorem D_M_gain_42 : decode m_M_gain.2.1 42 = .ok (.imul, 1) := by decide +kernel
theorem D_M_gain_43 : decode m_M_gain.2.1 43 = .ok (.iadd, 1) := by decide +kernel
theorem D_M_gain_44 : decode m_M_gain.2.1 44 = .ok (.ireturn, 1) := by decide +kernel
theorem D_M_bestEntry_0 : decode m_M_bestEntry.2.1 0 = .ok (.iload_n 1, 1) := by decide +kernel
theorem D_M_bestEntry_1 : decode m_M_bestEntry.2.1 1 = .ok (.iconst 0, 1) := by decide +kernel
theorem D_M_bestEntry_2 : decode m_M_bestEntry.2.1 2 = .ok (.iconst 2, 1) := by decide +kernel
theorem D_M_bestEntry_3 : decode m_M_bestEntry.2.1 3 = .ok (.invokestatic 52, 3) := by decide +kernel
theorem D_M_bestEntry_6 : decode m_M_bestEntry.2.1 6 = .ok (.ifCond .ne 6, 3) := by decide +kernel
theorem D_M_bestEntry_9 : decode m_M_bestEntry.2.1 9 = .ok (.bipush (-2), 2) := by decide +kernel
theorem D_M_bestEntry_11 : decode m_M_bestEntry.2.1 11 = .ok (.ireturn, 1) := by decide +kernel
theorem D_M_bestEntry_12 : decode m_M_bestEntry.2.1 12 = .ok (.aload_n 0, 1) := by decide +kernel
theorem D_M_bestEntry_13 : decode m_M_bestEntry.2.1 13 = .ok (.invokevirtual 85, 3) := by decide +kernel
theorem D_M_bestEntry_16 : decode m_M_bestEntry.2.1 16 = .ok (.aload_n 0, 1) := by decide +kernel
theorem D_M_bestEntry_17 : decode m_M_bestEntry.2.1 17 = .ok (.getfield 74, 3) := by decide +kernel
theorem D_M_bestEntry_20 : decode m_M_bestEntry.2.1 20 = .ok (.iconst 1, 1) := by decide +kernel
theorem D_M_bestEntry_21 : decode m_M_bestEntry.2.1 21 = .ok (.if_icmp .ne 6, 3) := by decide +kernel
theorem D_M_bestEntry_24 : decode m_M_bestEntry.2.1 24 = .ok (.bipush (-6), 2) := by decide +kernel
theorem D_M_bestEntry_26 : decode m_M_bestEntry.2.1 26 = .ok (.ireturn, 1) := by decide +kernel
theorem D_M_bestEntry_27 : decode m_M_bestEntry.2.1 27 = .ok (.iconst 0, 1) := by decide +kernel
theorem D_M_bestEntry_28 : decode m_M_bestEntry.2.1 28 = .ok (.istore_n 2, 1) := by decide +kernel
theorem D_M_bestEntry_29 : decode m_M_bestEntry.2.1 29 = .ok (.bipush (-6), 2) := by decide +kernel
theorem D_M_bestEntry_31 : decode m_M_bestEntry.2.1 31 = .ok (.istore_n 3, 1) := by decide +kernel
theorem D_M_bestEntry_32 : decode m_M_bestEntry.2.1 32 = .ok (.iconst 0, 1) := by decide +kernel
theorem D_M_bestEntry_33 : decode m_M_bestEntry.2.1 33 = .ok (.istore 4, 2) := by decide +kernel
theorem D_M_bestEntry_35 : decode m_M_bestEntry.2.1 35 = .ok (.iload 4, 2) := by decide +kernel
theorem D_M_bestEntry_37 : decode m_M_bestEntry.2.1 37 = .ok (.aload_n 0, 1) := by decide +kernel
theorem D_M_bestEntry_38 : decode m_M_bestEntry.2.1 38 = .ok (.getfield 7, 3) := by decide +kernel
theorem D_M_bestEntry_41 : decode m_M_bestEntry.2.1 41 = .ok (.bipush 36, 2) := by decide +kernel
theorem D_M_bestEntry_43 : decode m_M_bestEntry.2.1 43 = .ok (.iaload, 1) := by decide +kernel
theorem D_M_bestEntry_44 : decode m_M_bestEntry.2.1 44 = .ok (.if_icmp .ge 83, 3) := by decide +kernel
theorem D_M_bestEntry_47 : decode m_M_bestEntry.2.1 47 = .ok (.iconst 0, 1) := by decide +kernel
theorem D_M_bestEntry_48 : decode m_M_bestEntry.2.1 48 = .ok (.istore 5, 2) := by decide +kernel
theorem D_M_bestEntry_50 : decode m_M_bestEntry.2.1 50 = .ok (.iload 5, 2) := by decide +kernel
theorem D_M_bestEntry_52 : decode m_M_bestEntry.2.1 52 = .ok (.aload_n 0, 1) := by decide +kernel
theorem D_M_bestEntry_53 : decode m_M_bestEntry.2.1 53 = .ok (.getfield 7, 3) := by decide +kernel
theorem D_M_bestEntry_56 : decode m_M_bestEntry.2.1 56 = .ok (.bipush 37, 2) := by decide +kernel
theorem D_M_bestEntry_58 : decode m_M_bestEntry.2.1 58 = .ok (.iaload, 1) := by decide +kernel
theorem D_M_bestEntry_59 : decode m_M_bestEntry.2.1 59 = .ok (.if_icmp .ge 62, 3) := by decide +kernel
theorem D_M_bestEntry_62 : decode m_M_bestEntry.2.1 62 = .ok (.aload_n 0, 1) := by decide +kernel
theorem D_M_bestEntry_63 : decode m_M_bestEntry.2.1 63 = .ok (.iload 4, 2) := by decide +kernel
theorem D_M_bestEntry_65 : decode m_M_bestEntry.2.1 65 = .ok (.iload 5, 2) := by decide +kernel
theorem D_M_bestEntry_67 : decode m_M_bestEntry.2.1 67 = .ok (.invokevirtual 67, 3) := by decide +kernel
theorem D_M_bestEntry_70 : decode m_M_bestEntry.2.1 70 = .ok (.ifCond .le 7, 3) := by decide +kernel
theorem D_M_bestEntry_73 : decode m_M_bestEntry.2.1 73 = .ok (.iconst 0, 1) := by decide +kernel
theorem D_M_bestEntry_74 : decode m_M_bestEntry.2.1 74 = .ok (.goto 21, 3) := by decide +kernel
theorem D_M_bestEntry_77 : decode m_M_bestEntry.2.1 77 = .ok (.aload_n 0, 1) := by decide +kernel
theorem D_M_bestEntry_78 : decode m_M_bestEntry.2.1 78 = .ok (.aload_n 0, 1) := by decide +kernel
theorem D_M_bestEntry_79 : decode m_M_bestEntry.2.1 79 = .ok (.getfield 27, 3) := by decide +kernel
theorem D_M_bestEntry_82 : decode m_M_bestEntry.2.1 82 = .ok (.iload 4, 2) := by decide +kernel
theorem D_M_bestEntry_84 : decode m_M_bestEntry.2.1 84 = .ok (.iaload, 1) := by decide +kernel
theorem D_M_bestEntry_85 : decode m_M_bestEntry.2.1 85 = .ok (.aload_n 0, 1) := by decide +kernel
theorem D_M_bestEntry_86 : decode m_M_bestEntry.2.1 86 = .ok (.getfield 30, 3) := by decide +kernel
theorem D_M_bestEntry_89 : decode m_M_bestEntry.2.1 89 = .ok (.iload 5, 2) := by decide +kernel
theorem D_M_bestEntry_91 : decode m_M_bestEntry.2.1 91 = .ok (.iaload, 1) := by decide +kernel
theorem D_M_bestEntry_92 : decode m_M_bestEntry.2.1 92 = .ok (.invokevirtual 181, 3) := by decide +kernel
theorem D_M_bestEntry_95 : decode m_M_bestEntry.2.1 95 = .ok (.istore 6, 2) := by decide +kernel
theorem D_M_bestEntry_97 : decode m_M_bestEntry.2.1 97 = .ok (.iload 6, 2) := by decide +kernel
theorem D_M_bestEntry_99 : decode m_M_bestEntry.2.1 99 = .ok (.iload_n 2, 1) := by decide +kernel
theorem D_M_bestEntry_100 : decode m_M_bestEntry.2.1 100 = .ok (.if_icmp .le 15, 3) := by decide +kernel
theorem D_M_bestEntry_103 : decode m_M_bestEntry.2.1 103 = .ok (.iload 6, 2) := by decide +kernel
theorem D_M_bestEntry_105 : decode m_M_bestEntry.2.1 105 = .ok (.istore_n 2, 1) := by decide +kernel
theorem D_M_bestEntry_106 : decode m_M_bestEntry.2.1 106 = .ok (.bipush 6, 2) := by decide +kernel
theorem D_M_bestEntry_108 : decode m_M_bestEntry.2.1 108 = .ok (.iload 4, 2) := by decide +kernel
theorem D_M_bestEntry_110 : decode m_M_bestEntry.2.1 110 = .ok (.imul, 1) := by decide +kernel
theorem D_M_bestEntry_111 : decode m_M_bestEntry.2.1 111 = .ok (.iload 5, 2) := by decide +kernel
theorem D_M_bestEntry_113 : decode m_M_bestEntry.2.1 113 = .ok (.iadd, 1) := by decide +kernel
theorem D_M_bestEntry_114 : decode m_M_bestEntry.2.1 114 = .ok (.istore_n 3, 1) := by decide +kernel
theorem D_M_bestEntry_115 : decode m_M_bestEntry.2.1 115 = .ok (.iinc 5 1, 3) := by decide +kernel
theorem D_M_bestEntry_118 : decode m_M_bestEntry.2.1 118 = .ok (.goto (-68), 3) := by decide +kernel
theorem D_M_bestEntry_121 : decode m_M_bestEntry.2.1 121 = .ok (.iinc 4 1, 3) := by decide +kernel
theorem D_M_bestEntry_124 : decode m_M_bestEntry.2.1 124 = .ok (.goto (-89), 3) := by decide +kernel
theorem D_M_bestEntry_127 : decode m_M_bestEntry.2.1 127 = .ok (.iload_n 1, 1) := by decide +kernel
theorem D_M_bestEntry_128 : decode m_M_bestEntry.2.1 128 = .ok (.ifCond .ne 10, 3) := by decide +kernel
theorem D_M_bestEntry_131 : decode m_M_bestEntry.2.1 131 = .ok (.iload_n 3, 1) := by decide +kernel
theorem D_M_bestEntry_132 : decode m_M_bestEntry.2.1 132 = .ok (.bipush 6, 2) := by decide +kernel
theorem D_M_bestEntry_134 : decode m_M_bestEntry.2.1 134 = .ok (.idiv, 1) := by decide +kernel
theorem D_M_bestEntry_135 : decode m_M_bestEntry.2.1 135 = .ok (.goto 16, 3) := by decide +kernel
theorem D_M_bestEntry_138 : decode m_M_bestEntry.2.1 138 = .ok (.iload_n 1, 1) := by decide +kernel
theorem D_M_bestEntry_139 : decode m_M_bestEntry.2.1 139 = .ok (.iconst 1, 1) := by decide +kernel
theorem D_M_bestEntry_140 : decode m_M_bestEntry.2.1 140 = .ok (.if_icmp .ne 10, 3) := by decide +kernel
theorem D_M_bestEntry_143 : decode m_M_bestEntry.2.1 143 = .ok (.iload_n 3, 1) := by decide +kernel
theorem D_M_bestEntry_144 : decode m_M_bestEntry.2.1 144 = .ok (.bipush 6, 2) := by decide +kernel
theorem D_M_bestEntry_146 : decode m_M_bestEntry.2.1 146 = .ok (.irem, 1) := by decide +kernel
theorem D_M_bestEntry_147 : decode m_M_bestEntry.2.1 147 = .ok (.goto 4, 3) := by decide +kernel
theorem D_M_bestEntry_150 : decode m_M_bestEntry.2.1 150 = .ok (.iload_n 2, 1) := by decide +kernel
theorem D_M_bestEntry_151 : decode m_M_bestEntry.2.1 151 = .ok (.ireturn, 1) := by decide +kernel
theorem D_M_put_0 : decode m_M_put.2.1 0 = .ok (.iconst 0, 1) := by decide +kernel
theorem D_M_put_1 : decode m_M_put.2.1 1 = .ok (.istore_n 3, 1) := by decide +kernel
theorem D_M_put_2 : decode m_M_put.2.1 2 = .ok (.lload_n 1, 1) := by decide +kernel
theorem D_M_put_3 : decode m_M_put.2.1 3 = .ok (.lstore 4, 2) := by decide +kernel
theorem D_M_put_5 : decode m_M_put.2.1 5 = .ok (.iconst 1, 1) := by decide +kernel
theorem D_M_put_6 : decode m_M_put.2.1 6 = .ok (.istore 6, 2) := by decide +kernel
theorem D_M_put_8 : decode m_M_put.2.1 8 = .ok (.lload 4, 2) := by decide +kernel
theorem D_M_put_10 : decode m_M_put.2.1 10 = .ok (.lconst 0, 1) := by decide +kernel
theorem D_M_put_11 : decode m_M_put.2.1 11 = .ok (.lcmp, 1) := by decide +kernel
theorem D_M_put_12 : decode m_M_put.2.1 12 = .ok (.ifCond .eq 37, 3) := by decide +kernel
theorem D_M_put_15 : decode m_M_put.2.1 15 = .ok (.iload 6, 2) := by decide +kernel
theorem D_M_put_17 : decode m_M_put.2.1 17 = .ok (.ifCond .eq 32, 3) := by decide +kernel
theorem D_M_put_20 : decode m_M_put.2.1 20 = .ok (.lload 4, 2) := by decide +kernel
theorem D_M_put_22 : decode m_M_put.2.1 22 = .ok (.ldc2_w 184, 3) := by decide +kernel
theorem D_M_put_25 : decode m_M_put.2.1 25 = .ok (.land, 1) := by decide +kernel
theorem D_M_put_26 : decode m_M_put.2.1 26 = .ok (.l2i, 1) := by decide +kernel
theorem D_M_put_27 : decode m_M_put.2.1 27 = .ok (.bipush 33, 2) := by decide +kernel
theorem D_M_put_29 : decode m_M_put.2.1 29 = .ok (.bipush 126, 2) := by decide +kernel
theorem D_M_put_31 : decode m_M_put.2.1 31 = .ok (.invokestatic 52, 3) := by decide +kernel
theorem D_M_put_34 : decode m_M_put.2.1 34 = .ok (.istore 6, 2) := by decide +kernel
theorem D_M_put_36 : decode m_M_put.2.1 36 = .ok (.lload 4, 2) := by decide +kernel
theorem D_M_put_38 : decode m_M_put.2.1 38 = .ok (.bipush 8, 2) := by decide +kernel
theorem D_M_put_40 : decode m_M_put.2.1 40 = .ok (.lushr, 1) := by decide +kernel
theorem D_M_put_41 : decode m_M_put.2.1 41 = .ok (.lstore 4, 2) := by decide +kernel
theorem D_M_put_43 : decode m_M_put.2.1 43 = .ok (.iinc 3 1, 3) := by decide +kernel
theorem D_M_put_46 : decode m_M_put.2.1 46 = .ok (.goto (-38), 3) := by decide +kernel
theorem D_M_put_49 : decode m_M_put.2.1 49 = .ok (.iload_n 3, 1) := by decide +kernel
theorem D_M_put_50 : decode m_M_put.2.1 50 = .ok (.ifCond .eq 8, 3) := by decide +kernel
theorem D_M_put_53 : decode m_M_put.2.1 53 = .ok (.iload 6, 2) := by decide +kernel
theorem D_M_put_55 : decode m_M_put.2.1 55 = .ok (.ifCond .ne 6, 3) := by decide +kernel
theorem D_M_put_58 : decode m_M_put.2.1 58 = .ok (.bipush (-2), 2) := by decide +kernel
theorem D_M_put_60 : decode m_M_put.2.1 60 = .ok (.ireturn, 1) := by decide +kernel
theorem D_M_put_61 : decode m_M_put.2.1 61 = .ok (.aload_n 0, 1) := by decide +kernel
theorem D_M_put_62 : decode m_M_put.2.1 62 = .ok (.getfield 137, 3) := by decide +kernel
theorem D_M_put_65 : decode m_M_put.2.1 65 = .ok (.iload_n 3, 1) := by decide +kernel
theorem D_M_put_66 : decode m_M_put.2.1 66 = .ok (.iadd, 1) := by decide +kernel
theorem D_M_put_67 : decode m_M_put.2.1 67 = .ok (.bipush 50, 2) := by decide +kernel
theorem D_M_put_69 : decode m_M_put.2.1 69 = .ok (.if_icmp .le 6, 3) := by decide +kernel
theorem D_M_put_72 : decode m_M_put.2.1 72 = .ok (.bipush (-4), 2) := by decide +kernel
theorem D_M_put_74 : decode m_M_put.2.1 74 = .ok (.ireturn, 1) := by decide +kernel
theorem D_M_put_75 : decode m_M_put.2.1 75 = .ok (.iload_n 3, 1) := by decide +kernel
theorem D_M_put_76 : decode m_M_put.2.1 76 = .ok (.iconst 1, 1) := by decide +kernel
theorem D_M_put_77 : decode m_M_put.2.1 77 = .ok (.isub, 1) := by decide +kernel
theorem D_M_put_78 : decode m_M_put.2.1 78 = .ok (.istore 7, 2) := by decide +kernel
theorem D_M_put_80 : decode m_M_put.2.1 80 = .ok (.iload 7, 2) := by decide +kernel
theorem D_M_put_82 : decode m_M_put.2.1 82 = .ok (.ifCond .lt 41, 3) := by decide +kernel
theorem D_M_put_85 : decode m_M_put.2.1 85 = .ok (.aload_n 0, 1) := by decide +kernel
theorem D_M_put_86 : decode m_M_put.2.1 86 = .ok (.getfield 23, 3) := by decide +kernel
theorem D_M_put_89 : decode m_M_put.2.1 89 = .ok (.aload_n 0, 1) := by decide +kernel
theorem D_M_put_90 : decode m_M_put.2.1 90 = .ok (.getfield 137, 3) := by decide +kernel
theorem D_M_put_93 : decode m_M_put.2.1 93 = .ok (.lload_n 1, 1) := by decide +kernel
theorem D_M_put_94 : decode m_M_put.2.1 94 = .ok (.bipush 8, 2) := by decide +kernel
theorem D_M_put_96 : decode m_M_put.2.1 96 = .ok (.iload 7, 2) := by decide +kernel
theorem D_M_put_98 : decode m_M_put.2.1 98 = .ok (.imul, 1) := by decide +kernel
theorem D_M_put_99 : decode m_M_put.2.1 99 = .ok (.lushr, 1) := by decide +kernel
theorem D_M_put_100 : decode m_M_put.2.1 100 = .ok (.ldc2_w 184, 3) := by decide +kernel
theorem D_M_put_103 : decode m_M_put.2.1 103 = .ok (.land, 1) := by decide +kernel
theorem D_M_put_104 : decode m_M_put.2.1 104 = .ok (.l2i, 1) := by decide +kernel
theorem D_M_put_105 : decode m_M_put.2.1 105 = .ok (.i2c, 1) := by decide +kernel
theorem D_M_put_106 : decode m_M_put.2.1 106 = .ok (.castore, 1) := by decide +kernel
theorem D_M_put_107 : decode m_M_put.2.1 107 = .ok (.aload_n 0, 1) := by decide +kernel
theorem D_M_put_108 : decode m_M_put.2.1 108 = .ok (.dup, 1) := by decide +kernel
theorem D_M_put_109 : decode m_M_put.2.1 109 = .ok (.getfield 137, 3) := by decide +kernel
theorem D_M_put_112 : decode m_M_put.2.1 112 = .ok (.iconst 1, 1) := by decide +kernel
theorem D_M_put_113 : decode m_M_put.2.1 113 = .ok (.iadd, 1) := by decide +kernel
theorem D_M_put_114 : decode m_M_put.2.1 114 = .ok (.putfield 137, 3) := by decide +kernel
theorem D_M_put_117 : decode m_M_put.2.1 117 = .ok (.iinc 7 (-1), 3) := by decide +kernel
theorem D_M_put_120 : decode m_M_put.2.1 120 = .ok (.goto (-40), 3) := by decide +kernel
theorem D_M_put_123 : decode m_M_put.2.1 123 = .ok (.aload_n 0, 1) := by decide +kernel
theorem D_M_put_124 : decode m_M_put.2.1 124 = .ok (.getfield 137, 3) := by decide +kernel
theorem D_M_put_127 : decode m_M_put.2.1 127 = .ok (.ireturn, 1) := by decide +kernel
theorem D_M_wipe_0 : decode m_M_wipe.2.1 0 = .ok (.aload_n 0, 1) := by decide +kernel
theorem D_M_wipe_1 : decode m_M_wipe.2.1 1 = .ok (.getfield 137, 3) := by decide +kernel
theorem D_M_wipe_4 : decode m_M_wipe.2.1 4 = .ok (.istore_n 1, 1) := by decide +kernel
theorem D_M_wipe_5 : decode m_M_wipe.2.1 5 = .ok (.aload_n 0, 1) := by decide +kernel
theorem D_M_wipe_6 : decode m_M_wipe.2.1 6 = .ok (.iconst 0, 1) := by decide +kernel
theorem D_M_wipe_7 : decode m_M_wipe.2.1 7 = .ok (.putfield 137, 3) := by decide +kernel
theorem D_M_wipe_10 : decode m_M_wipe.2.1 10 = .ok (.iload_n 1, 1) := by decide +kernel
theorem D_M_wipe_11 : decode m_M_wipe.2.1 11 = .ok (.ireturn, 1) := by decide +kernel
theorem D_M_numberOf_0 : decode m_M_numberOf.2.1 0 = .ok (.iload_n 0, 1) := by decide +kernel
theorem D_M_numberOf_1 : decode m_M_numberOf.2.1 1 = .ok (.bipush 97, 2) := by decide +kernel
theorem D_M_numberOf_3 : decode m_M_numberOf.2.1 3 = .ok (.bipush 99, 2) := by decide +kernel
theorem D_M_numberOf_5 : decode m_M_numberOf.2.1 5 = .ok (.invokestatic 52, 3) := by decide +kernel
theorem D_M_numberOf_8 : decode m_M_numberOf.2.1 8 = .ok (.ifCond .eq 11, 3) := by decide +kernel
theorem D_M_numberOf_11 : decode m_M_numberOf.2.1 11 = .ok (.iload_n 0, 1) := by decide +kernel
theorem D_M_numberOf_12 : decode m_M_numberOf.2.1 12 = .ok (.bipush 97, 2) := by decide +kernel
theorem D_M_numberOf_14 : decode m_M_numberOf.2.1 14 = .ok (.isub, 1) := by decide +kernel
theorem D_M_numberOf_15 : decode m_M_numberOf.2.1 15 = .ok (.bipush 10, 2) := by decide +kernel
theorem D_M_numberOf_17 : decode m_M_numberOf.2.1 17 = .ok (.iadd, 1) := by decide +kernel
theorem D_M_numberOf_18 : decode m_M_numberOf.2.1 18 = .ok (.ireturn, 1) := by decide +kernel
theorem D_M_numberOf_19 : decode m_M_numberOf.2.1 19 = .ok (.iload_n 0, 1) := by decide +kernel
theorem D_M_numberOf_20 : decode m_M_numberOf.2.1 20 = .ok (.bipush 46, 2) := by decide +kernel
theorem D_M_numberOf_22 : decode m_M_numberOf.2.1 22 = .ok (.if_icmp .ne 7, 3) := by decide +kernel
theorem D_M_numberOf_25 : decode m_M_numberOf.2.1 25 = .ok (.iconst 0, 1) := by decide +kernel
theorem D_M_numberOf_26 : decode m_M_numberOf.2.1 26 = .ok (.goto 23, 3) := by decide +kernel
theorem D_M_numberOf_29 : decode m_M_numberOf.2.1 29 = .ok (.iload_n 0, 1) := by decide +kernel
theorem D_M_numberOf_30 : decode m_M_numberOf.2.1 30 = .ok (.bipush 49, 2) := by decide +kernel
theorem D_M_numberOf_32 : decode m_M_numberOf.2.1 32 = .ok (.bipush 57, 2) := by decide +kernel
theorem D_M_numberOf_34 : decode m_M_numberOf.2.1 34 = .ok (.invokestatic 52, 3) := by decide +kernel
theorem D_M_numberOf_37 : decode m_M_numberOf.2.1 37 = .ok (.ifCond .eq 10, 3) := by decide +kernel
theorem D_M_numberOf_40 : decode m_M_numberOf.2.1 40 = .ok (.iload_n 0, 1) := by decide +kernel
theorem D_M_numberOf_41 : decode m_M_numberOf.2.1 41 = .ok (.bipush 48, 2) := by decide +kernel
theorem D_M_numberOf_43 : decode m_M_numberOf.2.1 43 = .ok (.isub, 1) := by decide +kernel
theorem D_M_numberOf_44 : decode m_M_numberOf.2.1 44 = .ok (.goto 5, 3) := by decide +kernel
theorem D_M_numberOf_47 : decode m_M_numberOf.2.1 47 = .ok (.bipush (-6), 2) := by decide +kernel
theorem D_M_numberOf_49 : decode m_M_numberOf.2.1 49 = .ok (.ireturn, 1) := by decide +kernel
theorem D_M_readPad_0 : decode m_M_readPad.2.1 0 = .ok (.iconst 0, 1) := by decide +kernel
theorem D_M_readPad_1 : decode m_M_readPad.2.1 1 = .ok (.istore_n 1, 1) := by decide +kernel
theorem D_M_readPad_2 : decode m_M_readPad.2.1 2 = .ok (.iconst 0, 1) := by decide +kernel
theorem D_M_readPad_3 : decode m_M_readPad.2.1 3 = .ok (.istore_n 2, 1) := by decide +kernel
theorem D_M_readPad_4 : decode m_M_readPad.2.1 4 = .ok (.aload_n 0, 1) := by decide +kernel
theorem D_M_readPad_5 : decode m_M_readPad.2.1 5 = .ok (.bipush 6, 2) := by decide +kernel
theorem D_M_readPad_7 : decode m_M_readPad.2.1 7 = .ok (.putfield 186, 3) := by decide +kernel
theorem D_M_readPad_10 : decode m_M_readPad.2.1 10 = .ok (.iconst 0, 1) := by decide +kernel
theorem D_M_readPad_11 : decode m_M_readPad.2.1 11 = .ok (.istore_n 3, 1) := by decide +kernel
theorem D_M_readPad_12 : decode m_M_readPad.2.1 12 = .ok (.iload_n 3, 1) := by decide +kernel
theorem D_M_readPad_13 : decode m_M_readPad.2.1 13 = .ok (.aload_n 0, 1) := by decide +kernel
theorem D_M_readPad_14 : decode m_M_readPad.2.1 14 = .ok (.getfield 137, 3) := by decide +kernel
theorem D_M_readPad_17 : decode m_M_readPad.2.1 17 = .ok (.if_icmp .ge 113, 3) := by decide +kernel
theorem D_M_readPad_20 : decode m_M_readPad.2.1 20 = .ok (.aload_n 0, 1) := by decide +kernel
theorem D_M_readPad_21 : decode m_M_readPad.2.1 21 = .ok (.getfield 23, 3) := by decide +kernel
theorem D_M_readPad_24 : decode m_M_readPad.2.1 24 = .ok (.iload_n 3, 1) := by decide +kernel
theorem D_M_readPad_25 : decode m_M_readPad.2.1 25 = .ok (.caload, 1) := by decide +kernel
theorem D_M_readPad_26 : decode m_M_readPad.2.1 26 = .ok (.bipush 47, 2) := by decide +kernel
theorem D_M_readPad_28 : decode m_M_readPad.2.1 28 = .ok (.if_icmp .ne 52, 3) := by decide +kernel
theorem D_M_readPad_31 : decode m_M_readPad.2.1 31 = .ok (.iload_n 2, 1) := by decide +kernel
theorem D_M_readPad_32 : decode m_M_readPad.2.1 32 = .ok (.iconst 2, 1) := by decide +kernel
theorem D_M_readPad_33 : decode m_M_readPad.2.1 33 = .ok (.if_icmp .lt 24, 3) := by decide +kernel
theorem D_M_readPad_36 : decode m_M_readPad.2.1 36 = .ok (.iload_n 1, 1) := by decide +kernel
theorem D_M_readPad_37 : decode m_M_readPad.2.1 37 = .ok (.ifCond .eq 11, 3) := by decide +kernel
theorem D_M_readPad_40 : decode m_M_readPad.2.1 40 = .ok (.iload_n 2, 1) := by decide +kernel
theorem D_M_readPad_41 : decode m_M_readPad.2.1 41 = .ok (.aload_n 0, 1) := by decide +kernel
theorem D_M_readPad_42 : decode m_M_readPad.2.1 42 = .ok (.getfield 186, 3) := by decide +kernel
theorem D_M_readPad_45 : decode m_M_readPad.2.1 45 = .ok (.if_icmp .ne 12, 3) := by decide +kernel
theorem D_M_readPad_48 : decode m_M_readPad.2.1 48 = .ok (.iload_n 1, 1) := by decide +kernel
theorem D_M_readPad_49 : decode m_M_readPad.2.1 49 = .ok (.iconst 5, 1) := by decide +kernel
theorem D_M_readPad_50 : decode m_M_readPad.2.1 50 = .ok (.if_icmp .ge 7, 3) := by decide +kernel
theorem D_M_readPad_53 : decode m_M_readPad.2.1 53 = .ok (.iconst 1, 1) := by decide +kernel
theorem D_M_readPad_54 : decode m_M_readPad.2.1 54 = .ok (.goto 4, 3) := by decide +kernel
theorem D_M_readPad_57 : decode m_M_readPad.2.1 57 = .ok (.iconst 0, 1) := by decide +kernel
theorem D_M_readPad_58 : decode m_M_readPad.2.1 58 = .ok (.istore 4, 2) := by decide +kernel
theorem D_M_readPad_60 : decode m_M_readPad.2.1 60 = .ok (.iload 4, 2) := by decide +kernel
theorem D_M_readPad_62 : decode m_M_readPad.2.1 62 = .ok (.ifCond .ne 5, 3) := by decide +kernel
theorem D_M_readPad_65 : decode m_M_readPad.2.1 65 = .ok (.iload_n 3, 1) := by decide +kernel
theorem D_M_readPad_66 : decode m_M_readPad.2.1 66 = .ok (.ireturn, 1) := by decide +kernel
theorem D_M_readPad_67 : decode m_M_readPad.2.1 67 = .ok (.aload_n 0, 1) := by decide +kernel
theorem D_M_readPad_68 : decode m_M_readPad.2.1 68 = .ok (.iload_n 2, 1) := by decide +kernel
theorem D_M_readPad_69 : decode m_M_readPad.2.1 69 = .ok (.putfield 186, 3) := by decide +kernel
theorem D_M_readPad_72 : decode m_M_readPad.2.1 72 = .ok (.iinc 1 1, 3) := by decide +kernel
theorem D_M_readPad_75 : decode m_M_readPad.2.1 75 = .ok (.iconst 0, 1) := by decide +kernel
theorem D_M_readPad_76 : decode m_M_readPad.2.1 76 = .ok (.istore_n 2, 1) := by decide +kernel
theorem D_M_readPad_77 : decode m_M_readPad.2.1 77 = .ok (.goto 47, 3) := by decide +kernel
theorem D_M_readPad_80 : decode m_M_readPad.2.1 80 = .ok (.aload_n 0, 1) := by decide +kernel
theorem D_M_readPad_81 : decode m_M_readPad.2.1 81 = .ok (.getfield 23, 3) := by decide +kernel
theorem D_M_readPad_84 : decode m_M_readPad.2.1 84 = .ok (.iload_n 3, 1) := by decide +kernel
theorem D_M_readPad_85 : decode m_M_readPad.2.1 85 = .ok (.caload, 1) := by decide +kernel
theorem D_M_readPad_86 : decode m_M_readPad.2.1 86 = .ok (.invokestatic 189, 3) := by decide +kernel
theorem D_M_readPad_89 : decode m_M_readPad.2.1 89 = .ok (.istore 4, 2) := by decide +kernel
theorem D_M_readPad_91 : decode m_M_readPad.2.1 91 = .ok (.iload 4, 2) := by decide +kernel
theorem D_M_readPad_93 : decode m_M_readPad.2.1 93 = .ok (.bipush (-6), 2) := by decide +kernel
theorem D_M_readPad_95 : decode m_M_readPad.2.1 95 = .ok (.if_icmp .eq 11, 3) := by decide +kernel
theorem D_M_readPad_98 : decode m_M_readPad.2.1 98 = .ok (.iload_n 2, 1) := by decide +kernel
theorem D_M_readPad_99 : decode m_M_readPad.2.1 99 = .ok (.aload_n 0, 1) := by decide +kernel
theorem D_M_readPad_100 : decode m_M_readPad.2.1 100 = .ok (.getfield 186, 3) := by decide +kernel
theorem D_M_readPad_103 : decode m_M_readPad.2.1 103 = .ok (.if_icmp .ne 5, 3) := by decide +kernel
theorem D_M_readPad_106 : decode m_M_readPad.2.1 106 = .ok (.iload_n 3, 1) := by decide +kernel
theorem D_M_readPad_107 : decode m_M_readPad.2.1 107 = .ok (.ireturn, 1) := by decide +kernel
theorem D_M_readPad_108 : decode m_M_readPad.2.1 108 = .ok (.aload_n 0, 1) := by decide +kernel
theorem D_M_readPad_109 : decode m_M_readPad.2.1 109 = .ok (.getfield 45, 3) := by decide +kernel
theorem D_M_readPad_112 : decode m_M_readPad.2.1 112 = .ok (.bipush 6, 2) := by decide +kernel
theorem D_M_readPad_114 : decode m_M_readPad.2.1 114 = .ok (.iload_n 1, 1) := by decide +kernel
theorem D_M_readPad_115 : decode m_M_readPad.2.1 115 = .ok (.imul, 1) := by decide +kernel
theorem D_M_readPad_116 : decode m_M_readPad.2.1 116 = .ok (.iload_n 2, 1) := by decide +kernel
theorem D_M_readPad_117 : decode m_M_readPad.2.1 117 = .ok (.iadd, 1) := by decide +kernel
theorem D_M_readPad_118 : decode m_M_readPad.2.1 118 = .ok (.iload 4, 2) := by decide +kernel
theorem D_M_readPad_120 : decode m_M_readPad.2.1 120 = .ok (.iastore, 1) := by decide +kernel
theorem D_M_readPad_121 : decode m_M_readPad.2.1 121 = .ok (.iinc 2 1, 3) := by decide +kernel
theorem D_M_readPad_124 : decode m_M_readPad.2.1 124 = .ok (.iinc 3 1, 3) := by decide +kernel
theorem D_M_readPad_127 : decode m_M_readPad.2.1 127 = .ok (.goto (-115), 3) := by decide +kernel
theorem D_M_readPad_130 : decode m_M_readPad.2.1 130 = .ok (.aload_n 0, 1) := by decide +kernel
theorem D_M_readPad_131 : decode m_M_readPad.2.1 131 = .ok (.iload_n 1, 1) := by decide +kernel
theorem D_M_readPad_132 : decode m_M_readPad.2.1 132 = .ok (.iconst 1, 1) := by decide +kernel
theorem D_M_readPad_133 : decode m_M_readPad.2.1 133 = .ok (.iadd, 1) := by decide +kernel
theorem D_M_readPad_134 : decode m_M_readPad.2.1 134 = .ok (.putfield 192, 3) := by decide +kernel
theorem D_M_readPad_137 : decode m_M_readPad.2.1 137 = .ok (.iload_n 1, 1) := by decide +kernel
theorem D_M_readPad_138 : decode m_M_readPad.2.1 138 = .ok (.ifCond .eq 11, 3) := by decide +kernel
theorem D_M_readPad_141 : decode m_M_readPad.2.1 141 = .ok (.iload_n 2, 1) := by decide +kernel
theorem D_M_readPad_142 : decode m_M_readPad.2.1 142 = .ok (.aload_n 0, 1) := by decide +kernel
theorem D_M_readPad_143 : decode m_M_readPad.2.1 143 = .ok (.getfield 186, 3) := by decide +kernel
theorem D_M_readPad_146 : decode m_M_readPad.2.1 146 = .ok (.if_icmp .ge 10, 3) := by decide +kernel
theorem D_M_readPad_149 : decode m_M_readPad.2.1 149 = .ok (.aload_n 0, 1) := by decide +kernel
theorem D_M_readPad_150 : decode m_M_readPad.2.1 150 = .ok (.getfield 137, 3) := by decide +kernel
theorem D_M_readPad_153 : decode m_M_readPad.2.1 153 = .ok (.goto 5, 3) := by decide +kernel
theorem D_M_readPad_156 : decode m_M_readPad.2.1 156 = .ok (.bipush (-6), 2) := by decide +kernel
theorem D_M_readPad_158 : decode m_M_readPad.2.1 158 = .ok (.ireturn, 1) := by decide +kernel
theorem D_M_fault_0 : decode m_M_fault.2.1 0 = .ok (.aload_n 0, 1) := by decide +kernel
theorem D_M_fault_1 : decode m_M_fault.2.1 1 = .ok (.invokevirtual 195, 3) := by decide +kernel
theorem D_M_fault_4 : decode m_M_fault.2.1 4 = .ok (.ireturn, 1) := by decide +kernel
theorem D_M_read_0 : decode m_M_read.2.1 0 = .ok (.aload_n 0, 1) := by decide +kernel
theorem D_M_read_1 : decode m_M_read.2.1 1 = .ok (.invokevirtual 195, 3) := by decide +kernel
theorem D_M_read_4 : decode m_M_read.2.1 4 = .ok (.bipush (-6), 2) := by decide +kernel
theorem D_M_read_6 : decode m_M_read.2.1 6 = .ok (.if_icmp .eq 6, 3) := by decide +kernel
theorem D_M_read_9 : decode m_M_read.2.1 9 = .ok (.bipush (-3), 2) := by decide +kernel
theorem D_M_read_11 : decode m_M_read.2.1 11 = .ok (.ireturn, 1) := by decide +kernel
theorem D_M_read_12 : decode m_M_read.2.1 12 = .ok (.iconst 0, 1) := by decide +kernel
theorem D_M_read_13 : decode m_M_read.2.1 13 = .ok (.istore_n 1, 1) := by decide +kernel
theorem D_M_read_14 : decode m_M_read.2.1 14 = .ok (.iload_n 1, 1) := by decide +kernel
theorem D_M_read_15 : decode m_M_read.2.1 15 = .ok (.aload_n 0, 1) := by decide +kernel
theorem D_M_read_16 : decode m_M_read.2.1 16 = .ok (.getfield 192, 3) := by decide +kernel
theorem D_M_read_19 : decode m_M_read.2.1 19 = .ok (.if_icmp .ge 49, 3) := by decide +kernel
theorem D_M_read_22 : decode m_M_read.2.1 22 = .ok (.iconst 0, 1) := by decide +kernel
theorem D_M_read_23 : decode m_M_read.2.1 23 = .ok (.istore_n 2, 1) := by decide +kernel
theorem D_M_read_24 : decode m_M_read.2.1 24 = .ok (.iload_n 2, 1) := by decide +kernel
theorem D_M_read_25 : decode m_M_read.2.1 25 = .ok (.aload_n 0, 1) := by decide +kernel
theorem D_M_read_26 : decode m_M_read.2.1 26 = .ok (.getfield 186, 3) := by decide +kernel
theorem D_M_read_29 : decode m_M_read.2.1 29 = .ok (.if_icmp .ge 33, 3) := by decide +kernel
theorem D_M_read_32 : decode m_M_read.2.1 32 = .ok (.aload_n 0, 1) := by decide +kernel
theorem D_M_read_33 : decode m_M_read.2.1 33 = .ok (.getfield 45, 3) := by decide +kernel
theorem D_M_read_36 : decode m_M_read.2.1 36 = .ok (.bipush 6, 2) := by decide +kernel
theorem D_M_read_38 : decode m_M_read.2.1 38 = .ok (.iload_n 1, 1) := by decide +kernel
theorem D_M_read_39 : decode m_M_read.2.1 39 = .ok (.imul, 1) := by decide +kernel
theorem D_M_read_40 : decode m_M_read.2.1 40 = .ok (.iload_n 2, 1) := by decide +kernel
theorem D_M_read_41 : decode m_M_read.2.1 41 = .ok (.iadd, 1) := by decide +kernel
theorem D_M_read_42 : decode m_M_read.2.1 42 = .ok (.iaload, 1) := by decide +kernel
theorem D_M_read_43 : decode m_M_read.2.1 43 = .ok (.aload_n 0, 1) := by decide +kernel
theorem D_M_read_44 : decode m_M_read.2.1 44 = .ok (.getfield 7, 3) := by decide +kernel
theorem D_M_read_47 : decode m_M_read.2.1 47 = .ok (.bipush 38, 2) := by decide +kernel
theorem D_M_read_49 : decode m_M_read.2.1 49 = .ok (.iaload, 1) := by decide +kernel
theorem D_M_read_50 : decode m_M_read.2.1 50 = .ok (.if_icmp .lt 6, 3) := by decide +kernel
theorem D_M_read_53 : decode m_M_read.2.1 53 = .ok (.bipush (-2), 2) := by decide +kernel
theorem D_M_read_55 : decode m_M_read.2.1 55 = .ok (.ireturn, 1) := by decide +kernel
theorem D_M_read_56 : decode m_M_read.2.1 56 = .ok (.iinc 2 1, 3) := by decide +kernel
theorem D_M_read_59 : decode m_M_read.2.1 59 = .ok (.goto (-35), 3) := by decide +kernel
theorem D_M_read_62 : decode m_M_read.2.1 62 = .ok (.iinc 1 1, 3) := by decide +kernel
theorem D_M_read_65 : decode m_M_read.2.1 65 = .ok (.goto (-51), 3) := by decide +kernel
theorem D_M_read_68 : decode m_M_read.2.1 68 = .ok (.aload_n 0, 1) := by decide +kernel
theorem D_M_read_69 : decode m_M_read.2.1 69 = .ok (.invokevirtual 60, 3) := by decide +kernel
theorem D_M_read_72 : decode m_M_read.2.1 72 = .ok (.iconst 0, 1) := by decide +kernel
theorem D_M_read_73 : decode m_M_read.2.1 73 = .ok (.istore_n 1, 1) := by decide +kernel
theorem D_M_read_74 : decode m_M_read.2.1 74 = .ok (.iload_n 1, 1) := by decide +kernel
theorem D_M_read_75 : decode m_M_read.2.1 75 = .ok (.bipush 6, 2) := by decide +kernel
theorem D_M_read_77 : decode m_M_read.2.1 77 = .ok (.if_icmp .ge 65, 3) := by decide +kernel
theorem D_M_read_80 : decode m_M_read.2.1 80 = .ok (.iconst 0, 1) := by decide +kernel
theorem D_M_read_81 : decode m_M_read.2.1 81 = .ok (.istore_n 2, 1) := by decide +kernel
theorem D_M_read_82 : decode m_M_read.2.1 82 = .ok (.iload_n 2, 1) := by decide +kernel
theorem D_M_read_83 : decode m_M_read.2.1 83 = .ok (.bipush 6, 2) := by decide +kernel
theorem D_M_read_85 : decode m_M_read.2.1 85 = .ok (.if_icmp .ge 51, 3) := by decide +kernel
theorem D_M_read_88 : decode m_M_read.2.1 88 = .ok (.aload_n 0, 1) := by decide +kernel
theorem D_M_read_89 : decode m_M_read.2.1 89 = .ok (.getfield 7, 3) := by decide +kernel
theorem D_M_read_92 : decode m_M_read.2.1 92 = .ok (.bipush 6, 2) := by decide +kernel
theorem D_M_read_94 : decode m_M_read.2.1 94 = .ok (.iload_n 1, 1) := by decide +kernel
theorem D_M_read_95 : decode m_M_read.2.1 95 = .ok (.imul, 1) := by decide +kernel
theorem D_M_read_96 : decode m_M_read.2.1 96 = .ok (.iload_n 2, 1) := by decide +kernel
theorem D_M_read_97 : decode m_M_read.2.1 97 = .ok (.iadd, 1) := by decide +kernel
theorem D_M_read_98 : decode m_M_read.2.1 98 = .ok (.iload_n 1, 1) := by decide +kernel
theorem D_M_read_99 : decode m_M_read.2.1 99 = .ok (.aload_n 0, 1) := by decide +kernel
theorem D_M_read_100 : decode m_M_read.2.1 100 = .ok (.getfield 192, 3) := by decide +kernel
theorem D_M_read_103 : decode m_M_read.2.1 103 = .ok (.if_icmp .ge 25, 3) := by decide +kernel
theorem D_M_read_106 : decode m_M_read.2.1 106 = .ok (.iload_n 2, 1) := by decide +kernel
theorem D_M_read_107 : decode m_M_read.2.1 107 = .ok (.aload_n 0, 1) := by decide +kernel
theorem D_M_read_108 : decode m_M_read.2.1 108 = .ok (.getfield 186, 3) := by decide +kernel
theorem D_M_read_111 : decode m_M_read.2.1 111 = .ok (.if_icmp .ge 17, 3) := by decide +kernel
theorem D_M_read_114 : decode m_M_read.2.1 114 = .ok (.aload_n 0, 1) := by decide +kernel
theorem D_M_read_115 : decode m_M_read.2.1 115 = .ok (.getfield 45, 3) := by decide +kernel
theorem D_M_read_118 : decode m_M_read.2.1 118 = .ok (.bipush 6, 2) := by decide +kernel
theorem D_M_read_120 : decode m_M_read.2.1 120 = .ok (.iload_n 1, 1) := by decide +kernel
theorem D_M_read_121 : decode m_M_read.2.1 121 = .ok (.imul, 1) := by decide +kernel
theorem D_M_read_122 : decode m_M_read.2.1 122 = .ok (.iload_n 2, 1) := by decide +kernel
theorem D_M_read_123 : decode m_M_read.2.1 123 = .ok (.iadd, 1) := by decide +kernel
theorem D_M_read_124 : decode m_M_read.2.1 124 = .ok (.iaload, 1) := by decide +kernel
theorem D_M_read_125 : decode m_M_read.2.1 125 = .ok (.goto 4, 3) := by decide +kernel
theorem D_M_read_128 : decode m_M_read.2.1 128 = .ok (.iconst 0, 1) := by decide +kernel
theorem D_M_read_129 : decode m_M_read.2.1 129 = .ok (.iastore, 1) := by decide +kernel
theorem D_M_read_130 : decode m_M_read.2.1 130 = .ok (.iinc 2 1, 3) := by decide +kernel
theorem D_M_read_133 : decode m_M_read.2.1 133 = .ok (.goto (-51), 3) := by decide +kernel
theorem D_M_read_136 : decode m_M_read.2.1 136 = .ok (.iinc 1 1, 3) := by decide +kernel
theorem D_M_read_139 : decode m_M_read.2.1 139 = .ok (.goto (-65), 3) := by decide +kernel
theorem D_M_read_142 : decode m_M_read.2.1 142 = .ok (.aload_n 0, 1) := by decide +kernel
theorem D_M_read_143 : decode m_M_read.2.1 143 = .ok (.getfield 7, 3) := by decide +kernel
theorem D_M_read_146 : decode m_M_read.2.1 146 = .ok (.bipush 36, 2) := by decide +kernel
theorem D_M_read_148 : decode m_M_read.2.1 148 = .ok (.aload_n 0, 1) := by decide +kernel
theorem D_M_read_149 : decode m_M_read.2.1 149 = .ok (.getfield 192, 3) := by decide +kernel
theorem D_M_read_152 : decode m_M_read.2.1 152 = .ok (.iastore, 1) := by decide +kernel
theorem D_M_read_153 : decode m_M_read.2.1 153 = .ok (.aload_n 0, 1) := by decide +kernel
theorem D_M_read_154 : decode m_M_read.2.1 154 = .ok (.getfield 7, 3) := by decide +kernel
theorem D_M_read_157 : decode m_M_read.2.1 157 = .ok (.bipush 37, 2) := by decide +kernel
theorem D_M_read_159 : decode m_M_read.2.1 159 = .ok (.aload_n 0, 1) := by decide +kernel
theorem D_M_read_160 : decode m_M_read.2.1 160 = .ok (.getfield 186, 3) := by decide +kernel
theorem D_M_read_163 : decode m_M_read.2.1 163 = .ok (.iastore, 1) := by decide +kernel
theorem D_M_read_164 : decode m_M_read.2.1 164 = .ok (.aload_n 0, 1) := by decide +kernel
theorem D_M_read_165 : decode m_M_read.2.1 165 = .ok (.iconst 0, 1) := by decide +kernel
theorem D_M_read_166 : decode m_M_read.2.1 166 = .ok (.putfield 137, 3) := by decide +kernel
theorem D_M_read_169 : decode m_M_read.2.1 169 = .ok (.aload_n 0, 1) := by decide +kernel
theorem D_M_read_170 : decode m_M_read.2.1 170 = .ok (.invokevirtual 56, 3) := by decide +kernel
theorem D_M_read_173 : decode m_M_read.2.1 173 = .ok (.ireturn, 1) := by decide +kernel
theorem D_Law_law_0 : decode m_Law_law.2.1 0 = .ok (.new 7, 3) := by decide +kernel
theorem D_Law_law_3 : decode m_Law_law.2.1 3 = .ok (.dup, 1) := by decide +kernel
theorem D_Law_law_4 : decode m_Law_law.2.1 4 = .ok (.invokespecial 9, 3) := by decide +kernel
theorem D_Law_law_7 : decode m_Law_law.2.1 7 = .ok (.astore_n 1, 1) := by decide +kernel
theorem D_Law_law_8 : decode m_Law_law.2.1 8 = .ok (.new 10, 3) := by decide +kernel
theorem D_Law_law_11 : decode m_Law_law.2.1 11 = .ok (.dup, 1) := by decide +kernel
theorem D_Law_law_12 : decode m_Law_law.2.1 12 = .ok (.invokespecial 12, 3) := by decide +kernel
theorem D_Law_law_15 : decode m_Law_law.2.1 15 = .ok (.astore_n 2, 1) := by decide +kernel
theorem D_Law_law_16 : decode m_Law_law.2.1 16 = .ok (.iconst 0, 1) := by decide +kernel
theorem D_Law_law_17 : decode m_Law_law.2.1 17 = .ok (.istore_n 3, 1) := by decide +kernel
theorem D_Law_law_18 : decode m_Law_law.2.1 18 = .ok (.iload_n 3, 1) := by decide +kernel
theorem D_Law_law_19 : decode m_Law_law.2.1 19 = .ok (.aload_n 0, 1) := by decide +kernel
theorem D_Law_law_20 : decode m_Law_law.2.1 20 = .ok (.arraylength, 1) := by decide +kernel
theorem D_Law_law_21 : decode m_Law_law.2.1 21 = .ok (.iconst 5, 1) := by decide +kernel
theorem D_Law_law_22 : decode m_Law_law.2.1 22 = .ok (.isub, 1) := by decide +kernel
theorem D_Law_law_23 : decode m_Law_law.2.1 23 = .ok (.if_icmp .gt 683, 3) := by decide +kernel
theorem D_Law_law_26 : decode m_Law_law.2.1 26 = .ok (.aload_n 0, 1) := by decide +kernel
theorem D_Law_law_27 : decode m_Law_law.2.1 27 = .ok (.iload_n 3, 1) := by decide +kernel
theorem D_Law_law_28 : decode m_Law_law.2.1 28 = .ok (.iaload, 1) := by decide +kernel
theorem D_Law_law_29 : decode m_Law_law.2.1 29 = .ok (.bipush 31, 2) := by decide +kernel
theorem D_Law_law_31 : decode m_Law_law.2.1 31 = .ok (.iand, 1) := by decide +kernel
theorem D_Law_law_32 : decode m_Law_law.2.1 32 = .ok (.tableswitch 668 0 19 #[96, 139, 182, 195, 208, 251, 284, 307, 340, 363, 377, 450, 493, 507, 530, 583, 596, 609, 622, 645], 96) := by decide +kernel
theorem D_Law_law_128 : decode m_Law_law.2.1 128 = .ok (.aload_n 1, 1) := by decide +kernel
theorem D_Law_law_129 : decode m_Law_law.2.1 129 = .ok (.aload_n 0, 1) := by decide +kernel
theorem D_Law_law_130 : decode m_Law_law.2.1 130 = .ok (.iload_n 3, 1) := by decide +kernel
theorem D_Law_law_131 : decode m_Law_law.2.1 131 = .ok (.iconst 1, 1) := by decide +kernel
theorem D_Law_law_132 : decode m_Law_law.2.1 132 = .ok (.iadd, 1) := by decide +kernel
theorem D_Law_law_133 : decode m_Law_law.2.1 133 = .ok (.iaload, 1) := by decide +kernel
theorem D_Law_law_134 : decode m_Law_law.2.1 134 = .ok (.aload_n 0, 1) := by decide +kernel
theorem D_Law_law_135 : decode m_Law_law.2.1 135 = .ok (.iload_n 3, 1) := by decide +kernel
theorem D_Law_law_136 : decode m_Law_law.2.1 136 = .ok (.iconst 2, 1) := by decide +kernel
theorem D_Law_law_137 : decode m_Law_law.2.1 137 = .ok (.iadd, 1) := by decide +kernel
theorem D_Law_law_138 : decode m_Law_law.2.1 138 = .ok (.iaload, 1) := by decide +kernel
theorem D_Law_law_139 : decode m_Law_law.2.1 139 = .ok (.aload_n 0, 1) := by decide +kernel
theorem D_Law_law_140 : decode m_Law_law.2.1 140 = .ok (.iload_n 3, 1) := by decide +kernel
theorem D_Law_law_141 : decode m_Law_law.2.1 141 = .ok (.iconst 3, 1) := by decide +kernel
theorem D_Law_law_142 : decode m_Law_law.2.1 142 = .ok (.iadd, 1) := by decide +kernel
theorem D_Law_law_143 : decode m_Law_law.2.1 143 = .ok (.iaload, 1) := by decide +kernel
theorem D_Law_law_144 : decode m_Law_law.2.1 144 = .ok (.invokevirtual 13, 3) := by decide +kernel
theorem D_Law_law_147 : decode m_Law_law.2.1 147 = .ok (.aload_n 2, 1) := by decide +kernel
theorem D_Law_law_148 : decode m_Law_law.2.1 148 = .ok (.aload_n 0, 1) := by decide +kernel
theorem D_Law_law_149 : decode m_Law_law.2.1 149 = .ok (.iload_n 3, 1) := by decide +kernel
theorem D_Law_law_150 : decode m_Law_law.2.1 150 = .ok (.iconst 1, 1) := by decide +kernel
theorem D_Law_law_151 : decode m_Law_law.2.1 151 = .ok (.iadd, 1) := by decide +kernel
theorem D_Law_law_152 : decode m_Law_law.2.1 152 = .ok (.iaload, 1) := by decide +kernel
theorem D_Law_law_153 : decode m_Law_law.2.1 153 = .ok (.aload_n 0, 1) := by decide +kernel
theorem D_Law_law_154 : decode m_Law_law.2.1 154 = .ok (.iload_n 3, 1) := by decide +kernel
theorem D_Law_law_155 : decode m_Law_law.2.1 155 = .ok (.iconst 2, 1) := by decide +kernel
theorem D_Law_law_156 : decode m_Law_law.2.1 156 = .ok (.iadd, 1) := by decide +kernel
theorem D_Law_law_157 : decode m_Law_law.2.1 157 = .ok (.iaload, 1) := by decide +kernel
theorem D_Law_law_158 : decode m_Law_law.2.1 158 = .ok (.aload_n 0, 1) := by decide +kernel
theorem D_Law_law_159 : decode m_Law_law.2.1 159 = .ok (.iload_n 3, 1) := by decide +kernel
theorem D_Law_law_160 : decode m_Law_law.2.1 160 = .ok (.iconst 3, 1) := by decide +kernel
theorem D_Law_law_161 : decode m_Law_law.2.1 161 = .ok (.iadd, 1) := by decide +kernel
theorem D_Law_law_162 : decode m_Law_law.2.1 162 = .ok (.iaload, 1) := by decide +kernel
theorem D_Law_law_163 : decode m_Law_law.2.1 163 = .ok (.invokevirtual 17, 3) := by decide +kernel
theorem D_Law_law_166 : decode m_Law_law.2.1 166 = .ok (.if_icmp .eq 534, 3) := by decide +kernel
theorem D_Law_law_169 : decode m_Law_law.2.1 169 = .ok (.iconst 0, 1) := by decide +kernel
theorem D_Law_law_170 : decode m_Law_law.2.1 170 = .ok (.ireturn, 1) := by decide +kernel
theorem D_Law_law_171 : decode m_Law_law.2.1 171 = .ok (.aload_n 1, 1) := by decide +kernel
theorem D_Law_law_172 : decode m_Law_law.2.1 172 = .ok (.aload_n 0, 1) := by decide +kernel
theorem D_Law_law_173 : decode m_Law_law.2.1 173 = .ok (.iload_n 3, 1) := by decide +kernel
theorem D_Law_law_174 : decode m_Law_law.2.1 174 = .ok (.iconst 1, 1) := by decide +kernel
theorem D_Law_law_175 : decode m_Law_law.2.1 175 = .ok (.iadd, 1) := by decide +kernel
theorem D_Law_law_176 : decode m_Law_law.2.1 176 = .ok (.iaload, 1) := by decide +kernel
theorem D_Law_law_177 : decode m_Law_law.2.1 177 = .ok (.aload_n 0, 1) := by decide +kernel
theorem D_Law_law_178 : decode m_Law_law.2.1 178 = .ok (.iload_n 3, 1) := by decide +kernel
theorem D_Law_law_179 : decode m_Law_law.2.1 179 = .ok (.iconst 2, 1) := by decide +kernel
theorem D_Law_law_180 : decode m_Law_law.2.1 180 = .ok (.iadd, 1) := by decide +kernel
theorem D_Law_law_181 : decode m_Law_law.2.1 181 = .ok (.iaload, 1) := by decide +kernel
theorem D_Law_law_182 : decode m_Law_law.2.1 182 = .ok (.aload_n 0, 1) := by decide +kernel
theorem D_Law_law_183 : decode m_Law_law.2.1 183 = .ok (.iload_n 3, 1) := by decide +kernel
theorem D_Law_law_184 : decode m_Law_law.2.1 184 = .ok (.iconst 3, 1) := by decide +kernel
theorem D_Law_law_185 : decode m_Law_law.2.1 185 = .ok (.iadd, 1) := by decide +kernel
theorem D_Law_law_186 : decode m_Law_law.2.1 186 = .ok (.iaload, 1) := by decide +kernel
theorem D_Law_law_187 : decode m_Law_law.2.1 187 = .ok (.invokevirtual 18, 3) := by decide +kernel
theorem D_Law_law_190 : decode m_Law_law.2.1 190 = .ok (.aload_n 2, 1) := by decide +kernel
theorem D_Law_law_191 : decode m_Law_law.2.1 191 = .ok (.aload_n 0, 1) := by decide +kernel
theorem D_Law_law_192 : decode m_Law_law.2.1 192 = .ok (.iload_n 3, 1) := by decide +kernel
theorem D_Law_law_193 : decode m_Law_law.2.1 193 = .ok (.iconst 1, 1) := by decide +kernel
theorem D_Law_law_194 : decode m_Law_law.2.1 194 = .ok (.iadd, 1) := by decide +kernel
theorem D_Law_law_195 : decode m_Law_law.2.1 195 = .ok (.iaload, 1) := by decide +kernel
theorem D_Law_law_196 : decode m_Law_law.2.1 196 = .ok (.aload_n 0, 1) := by decide +kernel
theorem D_Law_law_197 : decode m_Law_law.2.1 197 = .ok (.iload_n 3, 1) := by decide +kernel
theorem D_Law_law_198 : decode m_Law_law.2.1 198 = .ok (.iconst 2, 1) := by decide +kernel
theorem D_Law_law_199 : decode m_Law_law.2.1 199 = .ok (.iadd, 1) := by decide +kernel
theorem D_Law_law_200 : decode m_Law_law.2.1 200 = .ok (.iaload, 1) := by decide +kernel
theorem D_Law_law_201 : decode m_Law_law.2.1 201 = .ok (.aload_n 0, 1) := by decide +kernel
theorem D_Law_law_202 : decode m_Law_law.2.1 202 = .ok (.iload_n 3, 1) := by decide +kernel
theorem D_Law_law_203 : decode m_Law_law.2.1 203 = .ok (.iconst 3, 1) := by decide +kernel
theorem D_Law_law_204 : decode m_Law_law.2.1 204 = .ok (.iadd, 1) := by decide +kernel
theorem D_Law_law_205 : decode m_Law_law.2.1 205 = .ok (.iaload, 1) := by decide +kernel
theorem D_Law_law_206 : decode m_Law_law.2.1 206 = .ok (.invokevirtual 21, 3) := by decide +kernel
theorem D_Law_law_209 : decode m_Law_law.2.1 209 = .ok (.if_icmp .eq 491, 3) := by decide +kernel
theorem D_Law_law_212 : decode m_Law_law.2.1 212 = .ok (.iconst 0, 1) := by decide +kernel
theorem D_Law_law_213 : decode m_Law_law.2.1 213 = .ok (.ireturn, 1) := by decide +kernel
theorem D_Law_law_214 : decode m_Law_law.2.1 214 = .ok (.aload_n 1, 1) := by decide +kernel
theorem D_Law_law_215 : decode m_Law_law.2.1 215 = .ok (.invokevirtual 22, 3) := by decide +kernel
theorem D_Law_law_218 : decode m_Law_law.2.1 218 = .ok (.aload_n 2, 1) := by decide +kernel
theorem D_Law_law_219 : decode m_Law_law.2.1 219 = .ok (.invokevirtual 26, 3) := by decide +kernel
theorem D_Law_law_222 : decode m_Law_law.2.1 222 = .ok (.if_icmp .eq 478, 3) := by decide +kernel
theorem D_Law_law_225 : decode m_Law_law.2.1 225 = .ok (.iconst 0, 1) := by decide +kernel
theorem D_Law_law_226 : decode m_Law_law.2.1 226 = .ok (.ireturn, 1) := by decide +kernel
theorem D_Law_law_227 : decode m_Law_law.2.1 227 = .ok (.aload_n 1, 1) := by decide +kernel
theorem D_Law_law_228 : decode m_Law_law.2.1 228 = .ok (.invokevirtual 27, 3) := by decide +kernel
theorem D_Law_law_231 : decode m_Law_law.2.1 231 = .ok (.aload_n 2, 1) := by decide +kernel
theorem D_Law_law_232 : decode m_Law_law.2.1 232 = .ok (.invokevirtual 30, 3) := by decide +kernel
theorem D_Law_law_235 : decode m_Law_law.2.1 235 = .ok (.if_icmp .eq 465, 3) := by decide +kernel
theorem D_Law_law_238 : decode m_Law_law.2.1 238 = .ok (.iconst 0, 1) := by decide +kernel
theorem D_Law_law_239 : decode m_Law_law.2.1 239 = .ok (.ireturn, 1) := by decide +kernel
theorem D_Law_law_240 : decode m_Law_law.2.1 240 = .ok (.aload_n 1, 1) := by decide +kernel
theorem D_Law_law_241 : decode m_Law_law.2.1 241 = .ok (.aload_n 0, 1) := by decide +kernel
theorem D_Law_law_242 : decode m_Law_law.2.1 242 = .ok (.iload_n 3, 1) := by decide +kernel
theorem D_Law_law_243 : decode m_Law_law.2.1 243 = .ok (.iconst 1, 1) := by decide +kernel
theorem D_Law_law_244 : decode m_Law_law.2.1 244 = .ok (.iadd, 1) := by decide +kernel
theorem D_Law_law_245 : decode m_Law_law.2.1 245 = .ok (.iaload, 1) := by decide +kernel
theorem D_Law_law_246 : decode m_Law_law.2.1 246 = .ok (.aload_n 0, 1) := by decide +kernel
theorem D_Law_law_247 : decode m_Law_law.2.1 247 = .ok (.iload_n 3, 1) := by decide +kernel
theorem D_Law_law_248 : decode m_Law_law.2.1 248 = .ok (.iconst 2, 1) := by decide +kernel
theorem D_Law_law_249 : decode m_Law_law.2.1 249 = .ok (.iadd, 1) := by decide +kernel
theorem D_Law_law_250 : decode m_Law_law.2.1 250 = .ok (.iaload, 1) := by decide +kernel
theorem D_Law_law_251 : decode m_Law_law.2.1 251 = .ok (.aload_n 0, 1) := by decide +kernel
theorem D_Law_law_252 : decode m_Law_law.2.1 252 = .ok (.iload_n 3, 1) := by decide +kernel
theorem D_Law_law_253 : decode m_Law_law.2.1 253 = .ok (.iconst 3, 1) := by decide +kernel
theorem D_Law_law_254 : decode m_Law_law.2.1 254 = .ok (.iadd, 1) := by decide +kernel
theorem D_Law_law_255 : decode m_Law_law.2.1 255 = .ok (.iaload, 1) := by decide +kernel
theorem D_Law_law_256 : decode m_Law_law.2.1 256 = .ok (.invokevirtual 31, 3) := by decide +kernel
theorem D_Law_law_259 : decode m_Law_law.2.1 259 = .ok (.aload_n 2, 1) := by decide +kernel
theorem D_Law_law_260 : decode m_Law_law.2.1 260 = .ok (.aload_n 0, 1) := by decide +kernel
theorem D_Law_law_261 : decode m_Law_law.2.1 261 = .ok (.iload_n 3, 1) := by decide +kernel
theorem D_Law_law_262 : decode m_Law_law.2.1 262 = .ok (.iconst 1, 1) := by decide +kernel
theorem D_Law_law_263 : decode m_Law_law.2.1 263 = .ok (.iadd, 1) := by decide +kernel
theorem D_Law_law_264 : decode m_Law_law.2.1 264 = .ok (.iaload, 1) := by decide +kernel
theorem D_Law_law_265 : decode m_Law_law.2.1 265 = .ok (.aload_n 0, 1) := by decide +kernel
theorem D_Law_law_266 : decode m_Law_law.2.1 266 = .ok (.iload_n 3, 1) := by decide +kernel
theorem D_Law_law_267 : decode m_Law_law.2.1 267 = .ok (.iconst 2, 1) := by decide +kernel
theorem D_Law_law_268 : decode m_Law_law.2.1 268 = .ok (.iadd, 1) := by decide +kernel
theorem D_Law_law_269 : decode m_Law_law.2.1 269 = .ok (.iaload, 1) := by decide +kernel
theorem D_Law_law_270 : decode m_Law_law.2.1 270 = .ok (.aload_n 0, 1) := by decide +kernel
theorem D_Law_law_271 : decode m_Law_law.2.1 271 = .ok (.iload_n 3, 1) := by decide +kernel
theorem D_Law_law_272 : decode m_Law_law.2.1 272 = .ok (.iconst 3, 1) := by decide +kernel
theorem D_Law_law_273 : decode m_Law_law.2.1 273 = .ok (.iadd, 1) := by decide +kernel
theorem D_Law_law_274 : decode m_Law_law.2.1 274 = .ok (.iaload, 1) := by decide +kernel
theorem D_Law_law_275 : decode m_Law_law.2.1 275 = .ok (.invokevirtual 34, 3) := by decide +kernel
theorem D_Law_law_278 : decode m_Law_law.2.1 278 = .ok (.if_icmp .eq 422, 3) := by decide +kernel
theorem D_Law_law_281 : decode m_Law_law.2.1 281 = .ok (.iconst 0, 1) := by decide +kernel
theorem D_Law_law_282 : decode m_Law_law.2.1 282 = .ok (.ireturn, 1) := by decide +kernel
theorem D_Law_law_283 : decode m_Law_law.2.1 283 = .ok (.aload_n 1, 1) := by decide +kernel
theorem D_Law_law_284 : decode m_Law_law.2.1 284 = .ok (.aload_n 0, 1) := by decide +kernel
theorem D_Law_law_285 : decode m_Law_law.2.1 285 = .ok (.iload_n 3, 1) := by decide +kernel
theorem D_Law_law_286 : decode m_Law_law.2.1 286 = .ok (.iconst 1, 1) := by decide +kernel
theorem D_Law_law_287 : decode m_Law_law.2.1 287 = .ok (.iadd, 1) := by decide +kernel
theorem D_Law_law_288 : decode m_Law_law.2.1 288 = .ok (.iaload, 1) := by decide +kernel
theorem D_Law_law_289 : decode m_Law_law.2.1 289 = .ok (.aload_n 0, 1) := by decide +kernel
theorem D_Law_law_290 : decode m_Law_law.2.1 290 = .ok (.iload_n 3, 1) := by decide +kernel
theorem D_Law_law_291 : decode m_Law_law.2.1 291 = .ok (.iconst 2, 1) := by decide +kernel
theorem D_Law_law_292 : decode m_Law_law.2.1 292 = .ok (.iadd, 1) := by decide +kernel
theorem D_Law_law_293 : decode m_Law_law.2.1 293 = .ok (.iaload, 1) := by decide +kernel
theorem D_Law_law_294 : decode m_Law_law.2.1 294 = .ok (.invokevirtual 35, 3) := by decide +kernel
theorem D_Law_law_297 : decode m_Law_law.2.1 297 = .ok (.aload_n 2, 1) := by decide +kernel
theorem D_Law_law_298 : decode m_Law_law.2.1 298 = .ok (.aload_n 0, 1) := by decide +kernel
theorem D_Law_law_299 : decode m_Law_law.2.1 299 = .ok (.iload_n 3, 1) := by decide +kernel
theorem D_Law_law_300 : decode m_Law_law.2.1 300 = .ok (.iconst 1, 1) := by decide +kernel
theorem D_Law_law_301 : decode m_Law_law.2.1 301 = .ok (.iadd, 1) := by decide +kernel
theorem D_Law_law_302 : decode m_Law_law.2.1 302 = .ok (.iaload, 1) := by decide +kernel
theorem D_Law_law_303 : decode m_Law_law.2.1 303 = .ok (.aload_n 0, 1) := by decide +kernel
theorem D_Law_law_304 : decode m_Law_law.2.1 304 = .ok (.iload_n 3, 1) := by decide +kernel
theorem D_Law_law_305 : decode m_Law_law.2.1 305 = .ok (.iconst 2, 1) := by decide +kernel
theorem D_Law_law_306 : decode m_Law_law.2.1 306 = .ok (.iadd, 1) := by decide +kernel
theorem D_Law_law_307 : decode m_Law_law.2.1 307 = .ok (.iaload, 1) := by decide +kernel
theorem D_Law_law_308 : decode m_Law_law.2.1 308 = .ok (.invokevirtual 39, 3) := by decide +kernel
theorem D_Law_law_311 : decode m_Law_law.2.1 311 = .ok (.if_icmp .eq 389, 3) := by decide +kernel
theorem D_Law_law_314 : decode m_Law_law.2.1 314 = .ok (.iconst 0, 1) := by decide +kernel
theorem D_Law_law_315 : decode m_Law_law.2.1 315 = .ok (.ireturn, 1) := by decide +kernel
theorem D_Law_law_316 : decode m_Law_law.2.1 316 = .ok (.aload_n 1, 1) := by decide +kernel
theorem D_Law_law_317 : decode m_Law_law.2.1 317 = .ok (.aload_n 0, 1) := by decide +kernel
theorem D_Law_law_318 : decode m_Law_law.2.1 318 = .ok (.iload_n 3, 1) := by decide +kernel
theorem D_Law_law_319 : decode m_Law_law.2.1 319 = .ok (.iconst 1, 1) := by decide +kernel
theorem D_Law_law_320 : decode m_Law_law.2.1 320 = .ok (.iadd, 1) := by decide +kernel
theorem D_Law_law_321 : decode m_Law_law.2.1 321 = .ok (.iaload, 1) := by decide +kernel
theorem D_Law_law_322 : decode m_Law_law.2.1 322 = .ok (.invokevirtual 40, 3) := by decide +kernel
theorem D_Law_law_325 : decode m_Law_law.2.1 325 = .ok (.aload_n 2, 1) := by decide +kernel
theorem D_Law_law_326 : decode m_Law_law.2.1 326 = .ok (.aload_n 0, 1) := by decide +kernel
theorem D_Law_law_327 : decode m_Law_law.2.1 327 = .ok (.iload_n 3, 1) := by decide +kernel
theorem D_Law_law_328 : decode m_Law_law.2.1 328 = .ok (.iconst 1, 1) := by decide +kernel
theorem D_Law_law_329 : decode m_Law_law.2.1 329 = .ok (.iadd, 1) := by decide +kernel
theorem D_Law_law_330 : decode m_Law_law.2.1 330 = .ok (.iaload, 1) := by decide +kernel
theorem D_Law_law_331 : decode m_Law_law.2.1 331 = .ok (.invokevirtual 44, 3) := by decide +kernel
theorem D_Law_law_334 : decode m_Law_law.2.1 334 = .ok (.if_icmp .eq 366, 3) := by decide +kernel
theorem D_Law_law_337 : decode m_Law_law.2.1 337 = .ok (.iconst 0, 1) := by decide +kernel
theorem D_Law_law_338 : decode m_Law_law.2.1 338 = .ok (.ireturn, 1) := by decide +kernel
theorem D_Law_law_339 : decode m_Law_law.2.1 339 = .ok (.aload_n 1, 1) := by decide +kernel
theorem D_Law_law_340 : decode m_Law_law.2.1 340 = .ok (.aload_n 0, 1) := by decide +kernel
theorem D_Law_law_341 : decode m_Law_law.2.1 341 = .ok (.iload_n 3, 1) := by decide +kernel
theorem D_Law_law_342 : decode m_Law_law.2.1 342 = .ok (.iconst 1, 1) := by decide +kernel
theorem D_Law_law_343 : decode m_Law_law.2.1 343 = .ok (.iadd, 1) := by decide +kernel
theorem D_Law_law_344 : decode m_Law_law.2.1 344 = .ok (.iaload, 1) := by decide +kernel
theorem D_Law_law_345 : decode m_Law_law.2.1 345 = .ok (.aload_n 0, 1) := by decide +kernel
theorem D_Law_law_346 : decode m_Law_law.2.1 346 = .ok (.iload_n 3, 1) := by decide +kernel
theorem D_Law_law_347 : decode m_Law_law.2.1 347 = .ok (.iconst 2, 1) := by decide +kernel
theorem D_Law_law_348 : decode m_Law_law.2.1 348 = .ok (.iadd, 1) := by decide +kernel
theorem D_Law_law_349 : decode m_Law_law.2.1 349 = .ok (.iaload, 1) := by decide +kernel
theorem D_Law_law_350 : decode m_Law_law.2.1 350 = .ok (.invokevirtual 45, 3) := by decide +kernel
theorem D_Law_law_353 : decode m_Law_law.2.1 353 = .ok (.aload_n 2, 1) := by decide +kernel
theorem D_Law_law_354 : decode m_Law_law.2.1 354 = .ok (.aload_n 0, 1) := by decide +kernel
theorem D_Law_law_355 : decode m_Law_law.2.1 355 = .ok (.iload_n 3, 1) := by decide +kernel
theorem D_Law_law_356 : decode m_Law_law.2.1 356 = .ok (.iconst 1, 1) := by decide +kernel
theorem D_Law_law_357 : decode m_Law_law.2.1 357 = .ok (.iadd, 1) := by decide +kernel
theorem D_Law_law_358 : decode m_Law_law.2.1 358 = .ok (.iaload, 1) := by decide +kernel
theorem D_Law_law_359 : decode m_Law_law.2.1 359 = .ok (.aload_n 0, 1) := by decide +kernel
theorem D_Law_law_360 : decode m_Law_law.2.1 360 = .ok (.iload_n 3, 1) := by decide +kernel
theorem D_Law_law_361 : decode m_Law_law.2.1 361 = .ok (.iconst 2, 1) := by decide +kernel
theorem D_Law_law_362 : decode m_Law_law.2.1 362 = .ok (.iadd, 1) := by decide +kernel
theorem D_Law_law_363 : decode m_Law_law.2.1 363 = .ok (.iaload, 1) := by decide +kernel
theorem D_Law_law_364 : decode m_Law_law.2.1 364 = .ok (.invokevirtual 48, 3) := by decide +kernel
theorem D_Law_law_367 : decode m_Law_law.2.1 367 = .ok (.if_icmp .eq 333, 3) := by decide +kernel
theorem D_Law_law_370 : decode m_Law_law.2.1 370 = .ok (.iconst 0, 1) := by decide +kernel
theorem D_Law_law_371 : decode m_Law_law.2.1 371 = .ok (.ireturn, 1) := by decide +kernel
theorem D_Law_law_372 : decode m_Law_law.2.1 372 = .ok (.aload_n 1, 1) := by decide +kernel
theorem D_Law_law_373 : decode m_Law_law.2.1 373 = .ok (.aload_n 0, 1) := by decide +kernel
theorem D_Law_law_374 : decode m_Law_law.2.1 374 = .ok (.iload_n 3, 1) := by decide +kernel
theorem D_Law_law_375 : decode m_Law_law.2.1 375 = .ok (.iconst 1, 1) := by decide +kernel
theorem D_Law_law_376 : decode m_Law_law.2.1 376 = .ok (.iadd, 1) := by decide +kernel
theorem D_Law_law_377 : decode m_Law_law.2.1 377 = .ok (.iaload, 1) := by decide +kernel
theorem D_Law_law_378 : decode m_Law_law.2.1 378 = .ok (.invokevirtual 49, 3) := by decide +kernel
theorem D_Law_law_381 : decode m_Law_law.2.1 381 = .ok (.aload_n 2, 1) := by decide +kernel
theorem D_Law_law_382 : decode m_Law_law.2.1 382 = .ok (.aload_n 0, 1) := by decide +kernel
theorem D_Law_law_383 : decode m_Law_law.2.1 383 = .ok (.iload_n 3, 1) := by decide +kernel
theorem D_Law_law_384 : decode m_Law_law.2.1 384 = .ok (.iconst 1, 1) := by decide +kernel
theorem D_Law_law_385 : decode m_Law_law.2.1 385 = .ok (.iadd, 1) := by decide +kernel
theorem D_Law_law_386 : decode m_Law_law.2.1 386 = .ok (.iaload, 1) := by decide +kernel
theorem D_Law_law_387 : decode m_Law_law.2.1 387 = .ok (.invokevirtual 52, 3) := by decide +kernel
theorem D_Law_law_390 : decode m_Law_law.2.1 390 = .ok (.if_icmp .eq 310, 3) := by decide +kernel
theorem D_Law_law_393 : decode m_Law_law.2.1 393 = .ok (.iconst 0, 1) := by decide +kernel
theorem D_Law_law_394 : decode m_Law_law.2.1 394 = .ok (.ireturn, 1) := by decide +kernel
theorem D_Law_law_395 : decode m_Law_law.2.1 395 = .ok (.aload_n 1, 1) := by decide +kernel
theorem D_Law_law_396 : decode m_Law_law.2.1 396 = .ok (.invokevirtual 53, 3) := by decide +kernel
theorem D_Law_law_399 : decode m_Law_law.2.1 399 = .ok (.aload_n 2, 1) := by decide +kernel
theorem D_Law_law_400 : decode m_Law_law.2.1 400 = .ok (.invokevirtual 57, 3) := by decide +kernel
theorem D_Law_law_403 : decode m_Law_law.2.1 403 = .ok (.lcmp, 1) := by decide +kernel
theorem D_Law_law_404 : decode m_Law_law.2.1 404 = .ok (.ifCond .eq 296, 3) := by decide +kernel
theorem D_Law_law_407 : decode m_Law_law.2.1 407 = .ok (.iconst 0, 1) := by decide +kernel
theorem D_Law_law_408 : decode m_Law_law.2.1 408 = .ok (.ireturn, 1) := by decide +kernel
theorem D_Law_law_409 : decode m_Law_law.2.1 409 = .ok (.aload_n 1, 1) := by decide +kernel
theorem D_Law_law_410 : decode m_Law_law.2.1 410 = .ok (.aload_n 0, 1) := by decide +kernel
theorem D_Law_law_411 : decode m_Law_law.2.1 411 = .ok (.iload_n 3, 1) := by decide +kernel
theorem D_Law_law_412 : decode m_Law_law.2.1 412 = .ok (.iconst 1, 1) := by decide +kernel
theorem D_Law_law_413 : decode m_Law_law.2.1 413 = .ok (.iadd, 1) := by decide +kernel
theorem D_Law_law_414 : decode m_Law_law.2.1 414 = .ok (.iaload, 1) := by decide +kernel
theorem D_Law_law_415 : decode m_Law_law.2.1 415 = .ok (.i2l, 1) := by decide +kernel
theorem D_Law_law_416 : decode m_Law_law.2.1 416 = .ok (.bipush 32, 2) := by decide +kernel
theorem D_Law_law_418 : decode m_Law_law.2.1 418 = .ok (.lshl, 1) := by decide +kernel
theorem D_Law_law_419 : decode m_Law_law.2.1 419 = .ok (.aload_n 0, 1) := by decide +kernel
theorem D_Law_law_420 : decode m_Law_law.2.1 420 = .ok (.iload_n 3, 1) := by decide +kernel
theorem D_Law_law_421 : decode m_Law_law.2.1 421 = .ok (.iconst 2, 1) := by decide +kernel
theorem D_Law_law_422 : decode m_Law_law.2.1 422 = .ok (.iadd, 1) := by decide +kernel
theorem D_Law_law_423 : decode m_Law_law.2.1 423 = .ok (.iaload, 1) := by decide +kernel
theorem D_Law_law_424 : decode m_Law_law.2.1 424 = .ok (.i2l, 1) := by decide +kernel
theorem D_Law_law_425 : decode m_Law_law.2.1 425 = .ok (.ldc2_w 58, 3) := by decide +kernel
theorem D_Law_law_428 : decode m_Law_law.2.1 428 = .ok (.land, 1) := by decide +kernel
theorem D_Law_law_429 : decode m_Law_law.2.1 429 = .ok (.lor, 1) := by decide +kernel
theorem D_Law_law_430 : decode m_Law_law.2.1 430 = .ok (.aload_n 0, 1) := by decide +kernel
theorem D_Law_law_431 : decode m_Law_law.2.1 431 = .ok (.iload_n 3, 1) := by decide +kernel
theorem D_Law_law_432 : decode m_Law_law.2.1 432 = .ok (.iconst 3, 1) := by decide +kernel
theorem D_Law_law_433 : decode m_Law_law.2.1 433 = .ok (.iadd, 1) := by decide +kernel
theorem D_Law_law_434 : decode m_Law_law.2.1 434 = .ok (.iaload, 1) := by decide +kernel
theorem D_Law_law_435 : decode m_Law_law.2.1 435 = .ok (.aload_n 0, 1) := by decide +kernel
theorem D_Law_law_436 : decode m_Law_law.2.1 436 = .ok (.iload_n 3, 1) := by decide +kernel
theorem D_Law_law_437 : decode m_Law_law.2.1 437 = .ok (.iconst 4, 1) := by decide +kernel
theorem D_Law_law_438 : decode m_Law_law.2.1 438 = .ok (.iadd, 1) := by decide +kernel
theorem D_Law_law_439 : decode m_Law_law.2.1 439 = .ok (.iaload, 1) := by decide +kernel
theorem D_Law_law_440 : decode m_Law_law.2.1 440 = .ok (.invokevirtual 60, 3) := by decide +kernel
theorem D_Law_law_443 : decode m_Law_law.2.1 443 = .ok (.aload_n 2, 1) := by decide +kernel
theorem D_Law_law_444 : decode m_Law_law.2.1 444 = .ok (.aload_n 0, 1) := by decide +kernel
theorem D_Law_law_445 : decode m_Law_law.2.1 445 = .ok (.iload_n 3, 1) := by decide +kernel
theorem D_Law_law_446 : decode m_Law_law.2.1 446 = .ok (.iconst 1, 1) := by decide +kernel
theorem D_Law_law_447 : decode m_Law_law.2.1 447 = .ok (.iadd, 1) := by decide +kernel
theorem D_Law_law_448 : decode m_Law_law.2.1 448 = .ok (.iaload, 1) := by decide +kernel
theorem D_Law_law_449 : decode m_Law_law.2.1 449 = .ok (.i2l, 1) := by decide +kernel
theorem D_Law_law_450 : decode m_Law_law.2.1 450 = .ok (.bipush 32, 2) := by decide +kernel
theorem D_Law_law_452 : decode m_Law_law.2.1 452 = .ok (.lshl, 1) := by decide +kernel
theorem D_Law_law_453 : decode m_Law_law.2.1 453 = .ok (.aload_n 0, 1) := by decide +kernel
theorem D_Law_law_454 : decode m_Law_law.2.1 454 = .ok (.iload_n 3, 1) := by decide +kernel
theorem D_Law_law_455 : decode m_Law_law.2.1 455 = .ok (.iconst 2, 1) := by decide +kernel
theorem D_Law_law_456 : decode m_Law_law.2.1 456 = .ok (.iadd, 1) := by decide +kernel
theorem D_Law_law_457 : decode m_Law_law.2.1 457 = .ok (.iaload, 1) := by decide +kernel
theorem D_Law_law_458 : decode m_Law_law.2.1 458 = .ok (.i2l, 1) := by decide +kernel
theorem D_Law_law_459 : decode m_Law_law.2.1 459 = .ok (.ldc2_w 58, 3) := by decide +kernel
theorem D_Law_law_462 : decode m_Law_law.2.1 462 = .ok (.land, 1) := by decide +kernel
theorem D_Law_law_463 : decode m_Law_law.2.1 463 = .ok (.lor, 1) := by decide +kernel
theorem D_Law_law_464 : decode m_Law_law.2.1 464 = .ok (.aload_n 0, 1) := by decide +kernel
theorem D_Law_law_465 : decode m_Law_law.2.1 465 = .ok (.iload_n 3, 1) := by decide +kernel
theorem D_Law_law_466 : decode m_Law_law.2.1 466 = .ok (.iconst 3, 1) := by decide +kernel
theorem D_Law_law_467 : decode m_Law_law.2.1 467 = .ok (.iadd, 1) := by decide +kernel
theorem D_Law_law_468 : decode m_Law_law.2.1 468 = .ok (.iaload, 1) := by decide +kernel
theorem D_Law_law_469 : decode m_Law_law.2.1 469 = .ok (.aload_n 0, 1) := by decide +kernel
theorem D_Law_law_470 : decode m_Law_law.2.1 470 = .ok (.iload_n 3, 1) := by decide +kernel
theorem D_Law_law_471 : decode m_Law_law.2.1 471 = .ok (.iconst 4, 1) := by decide +kernel
theorem D_Law_law_472 : decode m_Law_law.2.1 472 = .ok (.iadd, 1) := by decide +kernel
theorem D_Law_law_473 : decode m_Law_law.2.1 473 = .ok (.iaload, 1) := by decide +kernel
theorem D_Law_law_474 : decode m_Law_law.2.1 474 = .ok (.invokevirtual 64, 3) := by decide +kernel
theorem D_Law_law_477 : decode m_Law_law.2.1 477 = .ok (.if_icmp .eq 223, 3) := by decide +kernel
theorem D_Law_law_480 : decode m_Law_law.2.1 480 = .ok (.iconst 0, 1) := by decide +kernel
theorem D_Law_law_481 : decode m_Law_law.2.1 481 = .ok (.ireturn, 1) := by decide +kernel
theorem D_Law_law_482 : decode m_Law_law.2.1 482 = .ok (.aload_n 1, 1) := by decide +kernel
theorem D_Law_law_483 : decode m_Law_law.2.1 483 = .ok (.aload_n 0, 1) := by decide +kernel
theorem D_Law_law_484 : decode m_Law_law.2.1 484 = .ok (.iload_n 3, 1) := by decide +kernel
theorem D_Law_law_485 : decode m_Law_law.2.1 485 = .ok (.iconst 1, 1) := by decide +kernel
theorem D_Law_law_486 : decode m_Law_law.2.1 486 = .ok (.iadd, 1) := by decide +kernel
theorem D_Law_law_487 : decode m_Law_law.2.1 487 = .ok (.iaload, 1) := by decide +kernel
theorem D_Law_law_488 : decode m_Law_law.2.1 488 = .ok (.aload_n 0, 1) := by decide +kernel
theorem D_Law_law_489 : decode m_Law_law.2.1 489 = .ok (.iload_n 3, 1) := by decide +kernel
theorem D_Law_law_490 : decode m_Law_law.2.1 490 = .ok (.iconst 2, 1) := by decide +kernel
theorem D_Law_law_491 : decode m_Law_law.2.1 491 = .ok (.iadd, 1) := by decide +kernel
theorem D_Law_law_492 : decode m_Law_law.2.1 492 = .ok (.iaload, 1) := by decide +kernel
theorem D_Law_law_493 : decode m_Law_law.2.1 493 = .ok (.aload_n 0, 1) := by decide +kernel
theorem D_Law_law_494 : decode m_Law_law.2.1 494 = .ok (.iload_n 3, 1) := by decide +kernel
theorem D_Law_law_495 : decode m_Law_law.2.1 495 = .ok (.iconst 3, 1) := by decide +kernel
theorem D_Law_law_496 : decode m_Law_law.2.1 496 = .ok (.iadd, 1) := by decide +kernel
theorem D_Law_law_497 : decode m_Law_law.2.1 497 = .ok (.iaload, 1) := by decide +kernel
theorem D_Law_law_498 : decode m_Law_law.2.1 498 = .ok (.invokevirtual 65, 3) := by decide +kernel
theorem D_Law_law_501 : decode m_Law_law.2.1 501 = .ok (.aload_n 2, 1) := by decide +kernel
theorem D_Law_law_502 : decode m_Law_law.2.1 502 = .ok (.aload_n 0, 1) := by decide +kernel
theorem D_Law_law_503 : decode m_Law_law.2.1 503 = .ok (.iload_n 3, 1) := by decide +kernel
theorem D_Law_law_504 : decode m_Law_law.2.1 504 = .ok (.iconst 1, 1) := by decide +kernel
theorem D_Law_law_505 : decode m_Law_law.2.1 505 = .ok (.iadd, 1) := by decide +kernel
theorem D_Law_law_506 : decode m_Law_law.2.1 506 = .ok (.iaload, 1) := by decide +kernel
theorem D_Law_law_507 : decode m_Law_law.2.1 507 = .ok (.aload_n 0, 1) := by decide +kernel
theorem D_Law_law_508 : decode m_Law_law.2.1 508 = .ok (.iload_n 3, 1) := by decide +kernel
theorem D_Law_law_509 : decode m_Law_law.2.1 509 = .ok (.iconst 2, 1) := by decide +kernel
theorem D_Law_law_510 : decode m_Law_law.2.1 510 = .ok (.iadd, 1) := by decide +kernel
theorem D_Law_law_511 : decode m_Law_law.2.1 511 = .ok (.iaload, 1) := by decide +kernel
theorem D_Law_law_512 : decode m_Law_law.2.1 512 = .ok (.aload_n 0, 1) := by decide +kernel
theorem D_Law_law_513 : decode m_Law_law.2.1 513 = .ok (.iload_n 3, 1) := by decide +kernel
theorem D_Law_law_514 : decode m_Law_law.2.1 514 = .ok (.iconst 3, 1) := by decide +kernel
theorem D_Law_law_515 : decode m_Law_law.2.1 515 = .ok (.iadd, 1) := by decide +kernel
theorem D_Law_law_516 : decode m_Law_law.2.1 516 = .ok (.iaload, 1) := by decide +kernel
theorem D_Law_law_517 : decode m_Law_law.2.1 517 = .ok (.invokevirtual 68, 3) := by decide +kernel
theorem D_Law_law_520 : decode m_Law_law.2.1 520 = .ok (.if_icmp .eq 180, 3) := by decide +kernel
theorem D_Law_law_523 : decode m_Law_law.2.1 523 = .ok (.iconst 0, 1) := by decide +kernel
theorem D_Law_law_524 : decode m_Law_law.2.1 524 = .ok (.ireturn, 1) := by decide +kernel
theorem D_Law_law_525 : decode m_Law_law.2.1 525 = .ok (.aload_n 1, 1) := by decide +kernel
theorem D_Law_law_526 : decode m_Law_law.2.1 526 = .ok (.invokevirtual 69, 3) := by decide +kernel
theorem D_Law_law_529 : decode m_Law_law.2.1 529 = .ok (.aload_n 2, 1) := by decide +kernel
theorem D_Law_law_530 : decode m_Law_law.2.1 530 = .ok (.invokevirtual 72, 3) := by decide +kernel
theorem D_Law_law_533 : decode m_Law_law.2.1 533 = .ok (.lcmp, 1) := by decide +kernel
theorem D_Law_law_534 : decode m_Law_law.2.1 534 = .ok (.ifCond .eq 166, 3) := by decide +kernel
theorem D_Law_law_537 : decode m_Law_law.2.1 537 = .ok (.iconst 0, 1) := by decide +kernel
theorem D_Law_law_538 : decode m_Law_law.2.1 538 = .ok (.ireturn, 1) := by decide +kernel
theorem D_Law_law_539 : decode m_Law_law.2.1 539 = .ok (.aload_n 1, 1) := by decide +kernel
theorem D_Law_law_540 : decode m_Law_law.2.1 540 = .ok (.aload_n 0, 1) := by decide +kernel
theorem D_Law_law_541 : decode m_Law_law.2.1 541 = .ok (.iload_n 3, 1) := by decide +kernel
theorem D_Law_law_542 : decode m_Law_law.2.1 542 = .ok (.iconst 1, 1) := by decide +kernel
theorem D_Law_law_543 : decode m_Law_law.2.1 543 = .ok (.iadd, 1) := by decide +kernel
theorem D_Law_law_544 : decode m_Law_law.2.1 544 = .ok (.iaload, 1) := by decide +kernel
theorem D_Law_law_545 : decode m_Law_law.2.1 545 = .ok (.invokevirtual 73, 3) := by decide +kernel
theorem D_Law_law_548 : decode m_Law_law.2.1 548 = .ok (.aload_n 2, 1) := by decide +kernel
theorem D_Law_law_549 : decode m_Law_law.2.1 549 = .ok (.aload_n 0, 1) := by decide +kernel
theorem D_Law_law_550 : decode m_Law_law.2.1 550 = .ok (.iload_n 3, 1) := by decide +kernel
theorem D_Law_law_551 : decode m_Law_law.2.1 551 = .ok (.iconst 1, 1) := by decide +kernel
theorem D_Law_law_552 : decode m_Law_law.2.1 552 = .ok (.iadd, 1) := by decide +kernel
theorem D_Law_law_553 : decode m_Law_law.2.1 553 = .ok (.iaload, 1) := by decide +kernel
theorem D_Law_law_554 : decode m_Law_law.2.1 554 = .ok (.invokevirtual 76, 3) := by decide +kernel
theorem D_Law_law_557 : decode m_Law_law.2.1 557 = .ok (.if_icmp .eq 143, 3) := by decide +kernel
theorem D_Law_law_560 : decode m_Law_law.2.1 560 = .ok (.iconst 0, 1) := by decide +kernel
theorem D_Law_law_561 : decode m_Law_law.2.1 561 = .ok (.ireturn, 1) := by decide +kernel
theorem D_Law_law_562 : decode m_Law_law.2.1 562 = .ok (.aload_n 1, 1) := by decide +kernel
theorem D_Law_law_563 : decode m_Law_law.2.1 563 = .ok (.aload_n 0, 1) := by decide +kernel
theorem D_Law_law_564 : decode m_Law_law.2.1 564 = .ok (.iload_n 3, 1) := by decide +kernel
theorem D_Law_law_565 : decode m_Law_law.2.1 565 = .ok (.iconst 1, 1) := by decide +kernel
theorem D_Law_law_566 : decode m_Law_law.2.1 566 = .ok (.iadd, 1) := by decide +kernel
theorem D_Law_law_567 : decode m_Law_law.2.1 567 = .ok (.iaload, 1) := by decide +kernel
theorem D_Law_law_568 : decode m_Law_law.2.1 568 = .ok (.i2l, 1) := by decide +kernel
theorem D_Law_law_569 : decode m_Law_law.2.1 569 = .ok (.bipush 32, 2) := by decide +kernel
theorem D_Law_law_571 : decode m_Law_law.2.1 571 = .ok (.lshl, 1) := by decide +kernel
theorem D_Law_law_572 : decode m_Law_law.2.1 572 = .ok (.aload_n 0, 1) := by decide +kernel
theorem D_Law_law_573 : decode m_Law_law.2.1 573 = .ok (.iload_n 3, 1) := by decide +kernel
theorem D_Law_law_574 : decode m_Law_law.2.1 574 = .ok (.iconst 2, 1) := by decide +kernel
theorem D_Law_law_575 : decode m_Law_law.2.1 575 = .ok (.iadd, 1) := by decide +kernel
theorem D_Law_law_576 : decode m_Law_law.2.1 576 = .ok (.iaload, 1) := by decide +kernel
theorem D_Law_law_577 : decode m_Law_law.2.1 577 = .ok (.i2l, 1) := by decide +kernel
theorem D_Law_law_578 : decode m_Law_law.2.1 578 = .ok (.ldc2_w 58, 3) := by decide +kernel
theorem D_Law_law_581 : decode m_Law_law.2.1 581 = .ok (.land, 1) := by decide +kernel
theorem D_Law_law_582 : decode m_Law_law.2.1 582 = .ok (.lor, 1) := by decide +kernel
theorem D_Law_law_583 : decode m_Law_law.2.1 583 = .ok (.invokevirtual 77, 3) := by decide +kernel
theorem D_Law_law_586 : decode m_Law_law.2.1 586 = .ok (.aload_n 2, 1) := by decide +kernel
theorem D_Law_law_587 : decode m_Law_law.2.1 587 = .ok (.aload_n 0, 1) := by decide +kernel
theorem D_Law_law_588 : decode m_Law_law.2.1 588 = .ok (.iload_n 3, 1) := by decide +kernel
theorem D_Law_law_589 : decode m_Law_law.2.1 589 = .ok (.iconst 1, 1) := by decide +kernel
theorem D_Law_law_590 : decode m_Law_law.2.1 590 = .ok (.iadd, 1) := by decide +kernel
theorem D_Law_law_591 : decode m_Law_law.2.1 591 = .ok (.iaload, 1) := by decide +kernel
theorem D_Law_law_592 : decode m_Law_law.2.1 592 = .ok (.i2l, 1) := by decide +kernel
theorem D_Law_law_593 : decode m_Law_law.2.1 593 = .ok (.bipush 32, 2) := by decide +kernel
theorem D_Law_law_595 : decode m_Law_law.2.1 595 = .ok (.lshl, 1) := by decide +kernel
theorem D_Law_law_596 : decode m_Law_law.2.1 596 = .ok (.aload_n 0, 1) := by decide +kernel
theorem D_Law_law_597 : decode m_Law_law.2.1 597 = .ok (.iload_n 3, 1) := by decide +kernel
theorem D_Law_law_598 : decode m_Law_law.2.1 598 = .ok (.iconst 2, 1) := by decide +kernel
theorem D_Law_law_599 : decode m_Law_law.2.1 599 = .ok (.iadd, 1) := by decide +kernel
theorem D_Law_law_600 : decode m_Law_law.2.1 600 = .ok (.iaload, 1) := by decide +kernel
theorem D_Law_law_601 : decode m_Law_law.2.1 601 = .ok (.i2l, 1) := by decide +kernel
theorem D_Law_law_602 : decode m_Law_law.2.1 602 = .ok (.ldc2_w 58, 3) := by decide +kernel
theorem D_Law_law_605 : decode m_Law_law.2.1 605 = .ok (.land, 1) := by decide +kernel
theorem D_Law_law_606 : decode m_Law_law.2.1 606 = .ok (.lor, 1) := by decide +kernel
theorem D_Law_law_607 : decode m_Law_law.2.1 607 = .ok (.invokevirtual 81, 3) := by decide +kernel
theorem D_Law_law_610 : decode m_Law_law.2.1 610 = .ok (.if_icmp .eq 90, 3) := by decide +kernel
theorem D_Law_law_613 : decode m_Law_law.2.1 613 = .ok (.iconst 0, 1) := by decide +kernel
theorem D_Law_law_614 : decode m_Law_law.2.1 614 = .ok (.ireturn, 1) := by decide +kernel
theorem D_Law_law_615 : decode m_Law_law.2.1 615 = .ok (.aload_n 1, 1) := by decide +kernel
theorem D_Law_law_616 : decode m_Law_law.2.1 616 = .ok (.invokevirtual 82, 3) := by decide +kernel
theorem D_Law_law_619 : decode m_Law_law.2.1 619 = .ok (.aload_n 2, 1) := by decide +kernel
theorem D_Law_law_620 : decode m_Law_law.2.1 620 = .ok (.invokevirtual 85, 3) := by decide +kernel
theorem D_Law_law_623 : decode m_Law_law.2.1 623 = .ok (.if_icmp .eq 77, 3) := by decide +kernel
theorem D_Law_law_626 : decode m_Law_law.2.1 626 = .ok (.iconst 0, 1) := by decide +kernel
theorem D_Law_law_627 : decode m_Law_law.2.1 627 = .ok (.ireturn, 1) := by decide +kernel
theorem D_Law_law_628 : decode m_Law_law.2.1 628 = .ok (.aload_n 1, 1) := by decide +kernel
theorem D_Law_law_629 : decode m_Law_law.2.1 629 = .ok (.invokevirtual 86, 3) := by decide +kernel
theorem D_Law_law_632 : decode m_Law_law.2.1 632 = .ok (.aload_n 2, 1) := by decide +kernel
theorem D_Law_law_633 : decode m_Law_law.2.1 633 = .ok (.invokevirtual 89, 3) := by decide +kernel
theorem D_Law_law_636 : decode m_Law_law.2.1 636 = .ok (.if_icmp .eq 64, 3) := by decide +kernel
theorem D_Law_law_639 : decode m_Law_law.2.1 639 = .ok (.iconst 0, 1) := by decide +kernel
theorem D_Law_law_640 : decode m_Law_law.2.1 640 = .ok (.ireturn, 1) := by decide +kernel
theorem D_Law_law_641 : decode m_Law_law.2.1 641 = .ok (.aload_n 1, 1) := by decide +kernel
theorem D_Law_law_642 : decode m_Law_law.2.1 642 = .ok (.invokevirtual 90, 3) := by decide +kernel
theorem D_Law_law_645 : decode m_Law_law.2.1 645 = .ok (.aload_n 2, 1) := by decide +kernel
theorem D_Law_law_646 : decode m_Law_law.2.1 646 = .ok (.invokevirtual 93, 3) := by decide +kernel
theorem D_Law_law_649 : decode m_Law_law.2.1 649 = .ok (.if_icmp .eq 51, 3) := by decide +kernel
theorem D_Law_law_652 : decode m_Law_law.2.1 652 = .ok (.iconst 0, 1) := by decide +kernel
theorem D_Law_law_653 : decode m_Law_law.2.1 653 = .ok (.ireturn, 1) := by decide +kernel
theorem D_Law_law_654 : decode m_Law_law.2.1 654 = .ok (.aload_n 1, 1) := by decide +kernel
theorem D_Law_law_655 : decode m_Law_law.2.1 655 = .ok (.aload_n 0, 1) := by decide +kernel
theorem D_Law_law_656 : decode m_Law_law.2.1 656 = .ok (.iload_n 3, 1) := by decide +kernel
theorem D_Law_law_657 : decode m_Law_law.2.1 657 = .ok (.iconst 1, 1) := by decide +kernel
theorem D_Law_law_658 : decode m_Law_law.2.1 658 = .ok (.iadd, 1) := by decide +kernel
theorem D_Law_law_659 : decode m_Law_law.2.1 659 = .ok (.iaload, 1) := by decide +kernel
theorem D_Law_law_660 : decode m_Law_law.2.1 660 = .ok (.invokevirtual 94, 3) := by decide +kernel
theorem D_Law_law_663 : decode m_Law_law.2.1 663 = .ok (.aload_n 2, 1) := by decide +kernel
theorem D_Law_law_664 : decode m_Law_law.2.1 664 = .ok (.aload_n 0, 1) := by decide +kernel
theorem D_Law_law_665 : decode m_Law_law.2.1 665 = .ok (.iload_n 3, 1) := by decide +kernel
theorem D_Law_law_666 : decode m_Law_law.2.1 666 = .ok (.iconst 1, 1) := by decide +kernel
theorem D_Law_law_667 : decode m_Law_law.2.1 667 = .ok (.iadd, 1) := by decide +kernel
theorem D_Law_law_668 : decode m_Law_law.2.1 668 = .ok (.iaload, 1) := by decide +kernel
theorem D_Law_law_669 : decode m_Law_law.2.1 669 = .ok (.invokevirtual 97, 3) := by decide +kernel
theorem D_Law_law_672 : decode m_Law_law.2.1 672 = .ok (.if_icmp .eq 28, 3) := by decide +kernel
theorem D_Law_law_675 : decode m_Law_law.2.1 675 = .ok (.iconst 0, 1) := by decide +kernel
theorem D_Law_law_676 : decode m_Law_law.2.1 676 = .ok (.ireturn, 1) := by decide +kernel
theorem D_Law_law_677 : decode m_Law_law.2.1 677 = .ok (.aload_n 1, 1) := by decide +kernel
theorem D_Law_law_678 : decode m_Law_law.2.1 678 = .ok (.aload_n 0, 1) := by decide +kernel
theorem D_Law_law_679 : decode m_Law_law.2.1 679 = .ok (.iload_n 3, 1) := by decide +kernel
theorem D_Law_law_680 : decode m_Law_law.2.1 680 = .ok (.iconst 1, 1) := by decide +kernel
theorem D_Law_law_681 : decode m_Law_law.2.1 681 = .ok (.iadd, 1) := by decide +kernel
theorem D_Law_law_682 : decode m_Law_law.2.1 682 = .ok (.iaload, 1) := by decide +kernel
theorem D_Law_law_683 : decode m_Law_law.2.1 683 = .ok (.invokevirtual 98, 3) := by decide +kernel
theorem D_Law_law_686 : decode m_Law_law.2.1 686 = .ok (.aload_n 2, 1) := by decide +kernel
theorem D_Law_law_687 : decode m_Law_law.2.1 687 = .ok (.aload_n 0, 1) := by decide +kernel
theorem D_Law_law_688 : decode m_Law_law.2.1 688 = .ok (.iload_n 3, 1) := by decide +kernel
theorem D_Law_law_689 : decode m_Law_law.2.1 689 = .ok (.iconst 1, 1) := by decide +kernel
theorem D_Law_law_690 : decode m_Law_law.2.1 690 = .ok (.iadd, 1) := by decide +kernel
theorem D_Law_law_691 : decode m_Law_law.2.1 691 = .ok (.iaload, 1) := by decide +kernel
theorem D_Law_law_692 : decode m_Law_law.2.1 692 = .ok (.invokevirtual 101, 3) := by decide +kernel
theorem D_Law_law_695 : decode m_Law_law.2.1 695 = .ok (.if_icmp .eq 5, 3) := by decide +kernel
theorem D_Law_law_698 : decode m_Law_law.2.1 698 = .ok (.iconst 0, 1) := by decide +kernel
theorem D_Law_law_699 : decode m_Law_law.2.1 699 = .ok (.ireturn, 1) := by decide +kernel
theorem D_Law_law_700 : decode m_Law_law.2.1 700 = .ok (.iinc 3 5, 3) := by decide +kernel
theorem D_Law_law_703 : decode m_Law_law.2.1 703 = .ok (.goto (-685), 3) := by decide +kernel
theorem D_Law_law_706 : decode m_Law_law.2.1 706 = .ok (.iconst 1, 1) := by decide +kernel
theorem D_Law_law_707 : decode m_Law_law.2.1 707 = .ok (.ireturn, 1) := by decide +kernel
