theorem d_F_init_0 : decode b_F_init 0 = .ok (.aload_n 0, 1) := by decide +kernel
theorem d_F_init_1 : decode b_F_init 1 = .ok (.invokespecial 1, 3) := by decide +kernel
theorem d_F_init_4 : decode b_F_init 4 = .ok (.aload_n 0, 1) := by decide +kernel
theorem d_F_init_5 : decode b_F_init 5 = .ok (.iconst 3, 1) := by decide +kernel
theorem d_F_init_6 : decode b_F_init 6 = .ok (.anewarray 9, 3) := by decide +kernel
theorem d_F_init_9 : decode b_F_init 9 = .ok (.putfield 11, 3) := by decide +kernel
theorem d_F_init_12 : decode b_F_init 12 = .ok (.iconst 0, 1) := by decide +kernel
theorem d_F_init_13 : decode b_F_init 13 = .ok (.istore_n 1, 1) := by decide +kernel
theorem d_F_init_14 : decode b_F_init 14 = .ok (.iload_n 1, 1) := by decide +kernel
theorem d_F_init_15 : decode b_F_init 15 = .ok (.iconst 3, 1) := by decide +kernel
theorem d_F_init_16 : decode b_F_init 16 = .ok (.if_icmp .ge 23, 3) := by decide +kernel
theorem d_F_init_19 : decode b_F_init 19 = .ok (.aload_n 0, 1) := by decide +kernel
theorem d_F_init_20 : decode b_F_init 20 = .ok (.getfield 11, 3) := by decide +kernel
theorem d_F_init_23 : decode b_F_init 23 = .ok (.iload_n 1, 1) := by decide +kernel
theorem d_F_init_24 : decode b_F_init 24 = .ok (.new 9, 3) := by decide +kernel
theorem d_F_init_27 : decode b_F_init 27 = .ok (.dup, 1) := by decide +kernel
theorem d_F_init_28 : decode b_F_init 28 = .ok (.iload_n 1, 1) := by decide +kernel
theorem d_F_init_29 : decode b_F_init 29 = .ok (.invokespecial 15, 3) := by decide +kernel
theorem d_F_init_32 : decode b_F_init 32 = .ok (.aastore, 1) := by decide +kernel
theorem d_F_init_33 : decode b_F_init 33 = .ok (.iinc 1 1, 3) := by decide +kernel
theorem d_F_init_36 : decode b_F_init 36 = .ok (.goto (-22), 3) := by decide +kernel
theorem d_F_init_39 : decode b_F_init 39 = .ok (.aload_n 0, 1) := by decide +kernel
theorem d_F_init_40 : decode b_F_init 40 = .ok (.bipush 40, 2) := by decide +kernel
theorem d_F_init_42 : decode b_F_init 42 = .ok (.anewarray 18, 3) := by decide +kernel
theorem d_F_init_45 : decode b_F_init 45 = .ok (.putfield 20, 3) := by decide +kernel
theorem d_F_init_48 : decode b_F_init 48 = .ok (.iconst 0, 1) := by decide +kernel
theorem d_F_init_49 : decode b_F_init 49 = .ok (.istore_n 1, 1) := by decide +kernel
theorem d_F_init_50 : decode b_F_init 50 = .ok (.iload_n 1, 1) := by decide +kernel
theorem d_F_init_51 : decode b_F_init 51 = .ok (.bipush 40, 2) := by decide +kernel
theorem d_F_init_53 : decode b_F_init 53 = .ok (.if_icmp .ge 22, 3) := by decide +kernel
theorem d_F_init_56 : decode b_F_init 56 = .ok (.aload_n 0, 1) := by decide +kernel
theorem d_F_init_57 : decode b_F_init 57 = .ok (.getfield 20, 3) := by decide +kernel
theorem d_F_init_60 : decode b_F_init 60 = .ok (.iload_n 1, 1) := by decide +kernel
theorem d_F_init_61 : decode b_F_init 61 = .ok (.new 18, 3) := by decide +kernel
theorem d_F_init_64 : decode b_F_init 64 = .ok (.dup, 1) := by decide +kernel
theorem d_F_init_65 : decode b_F_init 65 = .ok (.invokespecial 24, 3) := by decide +kernel
theorem d_F_init_68 : decode b_F_init 68 = .ok (.aastore, 1) := by decide +kernel
theorem d_F_init_69 : decode b_F_init 69 = .ok (.iinc 1 1, 3) := by decide +kernel
theorem d_F_init_72 : decode b_F_init 72 = .ok (.goto (-22), 3) := by decide +kernel
theorem d_F_init_75 : decode b_F_init 75 = .ok (.aload_n 0, 1) := by decide +kernel
theorem d_F_init_76 : decode b_F_init 76 = .ok (.new 25, 3) := by decide +kernel
theorem d_F_init_79 : decode b_F_init 79 = .ok (.dup, 1) := by decide +kernel
theorem d_F_init_80 : decode b_F_init 80 = .ok (.invokespecial 27, 3) := by decide +kernel
theorem d_F_init_83 : decode b_F_init 83 = .ok (.putfield 28, 3) := by decide +kernel
theorem d_F_init_86 : decode b_F_init 86 = .ok (.return_, 1) := by decide +kernel
theorem d_F_ask_0 : decode b_F_ask 0 = .ok (.iload_n 1, 1) := by decide +kernel
theorem d_F_ask_1 : decode b_F_ask 1 = .ok (.iload_n 2, 1) := by decide +kernel
theorem d_F_ask_2 : decode b_F_ask 2 = .ok (.invokestatic 32, 3) := by decide +kernel
theorem d_F_ask_5 : decode b_F_ask 5 = .ok (.iload_n 3, 1) := by decide +kernel
theorem d_F_ask_6 : decode b_F_ask 6 = .ok (.iconst 0, 1) := by decide +kernel
theorem d_F_ask_7 : decode b_F_ask 7 = .ok (.iconst 2, 1) := by decide +kernel
theorem d_F_ask_8 : decode b_F_ask 8 = .ok (.invokestatic 36, 3) := by decide +kernel
theorem d_F_ask_11 : decode b_F_ask 11 = .ok (.invokestatic 40, 3) := by decide +kernel
theorem d_F_ask_14 : decode b_F_ask 14 = .ok (.aload_n 0, 1) := by decide +kernel
theorem d_F_ask_15 : decode b_F_ask 15 = .ok (.getfield 11, 3) := by decide +kernel
theorem d_F_ask_18 : decode b_F_ask 18 = .ok (.iload_n 1, 1) := by decide +kernel
theorem d_F_ask_19 : decode b_F_ask 19 = .ok (.aaload, 1) := by decide +kernel
theorem d_F_ask_20 : decode b_F_ask 20 = .ok (.astore 4, 2) := by decide +kernel
theorem d_F_ask_22 : decode b_F_ask 22 = .ok (.aload 4, 2) := by decide +kernel
theorem d_F_ask_24 : decode b_F_ask 24 = .ok (.getfield 44, 3) := by decide +kernel
theorem d_F_ask_27 : decode b_F_ask 27 = .ok (.iload_n 2, 1) := by decide +kernel
theorem d_F_ask_28 : decode b_F_ask 28 = .ok (.aaload, 1) := by decide +kernel
theorem d_F_ask_29 : decode b_F_ask 29 = .ok (.astore 5, 2) := by decide +kernel
theorem d_F_ask_31 : decode b_F_ask 31 = .ok (.aload 5, 2) := by decide +kernel
theorem d_F_ask_33 : decode b_F_ask 33 = .ok (.getfield 48, 3) := by decide +kernel
theorem d_F_ask_36 : decode b_F_ask 36 = .ok (.iconst (-1), 1) := by decide +kernel
theorem d_F_ask_37 : decode b_F_ask 37 = .ok (.if_icmp .eq 13, 3) := by decide +kernel
theorem d_F_ask_40 : decode b_F_ask 40 = .ok (.new 54, 3) := by decide +kernel
theorem d_F_ask_43 : decode b_F_ask 43 = .ok (.dup, 1) := by decide +kernel
theorem d_F_ask_44 : decode b_F_ask 44 = .ok (.ldc 56, 2) := by decide +kernel
theorem d_F_ask_46 : decode b_F_ask 46 = .ok (.invokespecial 58, 3) := by decide +kernel
theorem d_F_ask_49 : decode b_F_ask 49 = .ok (.athrow, 1) := by decide +kernel
theorem d_F_ask_50 : decode b_F_ask 50 = .ok (.aload 4, 2) := by decide +kernel
theorem d_F_ask_52 : decode b_F_ask 52 = .ok (.getfield 61, 3) := by decide +kernel
theorem d_F_ask_55 : decode b_F_ask 55 = .ok (.iload_n 2, 1) := by decide +kernel
theorem d_F_ask_56 : decode b_F_ask 56 = .ok (.baload, 1) := by decide +kernel
theorem d_F_ask_57 : decode b_F_ask 57 = .ok (.ifCond .eq 13, 3) := by decide +kernel
theorem d_F_ask_60 : decode b_F_ask 60 = .ok (.new 65, 3) := by decide +kernel
theorem d_F_ask_63 : decode b_F_ask 63 = .ok (.dup, 1) := by decide +kernel
theorem d_F_ask_64 : decode b_F_ask 64 = .ok (.ldc 67, 2) := by decide +kernel
theorem d_F_ask_66 : decode b_F_ask 66 = .ok (.invokespecial 69, 3) := by decide +kernel
theorem d_F_ask_69 : decode b_F_ask 69 = .ok (.athrow, 1) := by decide +kernel
theorem d_F_ask_70 : decode b_F_ask 70 = .ok (.sipush 1000, 3) := by decide +kernel
theorem d_F_ask_73 : decode b_F_ask 73 = .ok (.aload_n 0, 1) := by decide +kernel
theorem d_F_ask_74 : decode b_F_ask 74 = .ok (.getfield 70, 3) := by decide +kernel
theorem d_F_ask_77 : decode b_F_ask 77 = .ok (.imul, 1) := by decide +kernel
theorem d_F_ask_78 : decode b_F_ask 78 = .ok (.bipush 100, 2) := by decide +kernel
theorem d_F_ask_80 : decode b_F_ask 80 = .ok (.iload_n 1, 1) := by decide +kernel
theorem d_F_ask_81 : decode b_F_ask 81 = .ok (.imul, 1) := by decide +kernel
theorem d_F_ask_82 : decode b_F_ask 82 = .ok (.iadd, 1) := by decide +kernel
theorem d_F_ask_83 : decode b_F_ask 83 = .ok (.iload_n 2, 1) := by decide +kernel
theorem d_F_ask_84 : decode b_F_ask 84 = .ok (.iadd, 1) := by decide +kernel
theorem d_F_ask_85 : decode b_F_ask 85 = .ok (.istore 6, 2) := by decide +kernel
theorem d_F_ask_87 : decode b_F_ask 87 = .ok (.aload_n 0, 1) := by decide +kernel
theorem d_F_ask_88 : decode b_F_ask 88 = .ok (.dup, 1) := by decide +kernel
theorem d_F_ask_89 : decode b_F_ask 89 = .ok (.getfield 70, 3) := by decide +kernel
theorem d_F_ask_92 : decode b_F_ask 92 = .ok (.iconst 1, 1) := by decide +kernel
theorem d_F_ask_93 : decode b_F_ask 93 = .ok (.iadd, 1) := by decide +kernel
theorem d_F_ask_94 : decode b_F_ask 94 = .ok (.putfield 70, 3) := by decide +kernel
theorem d_F_ask_97 : decode b_F_ask 97 = .ok (.aload 5, 2) := by decide +kernel
theorem d_F_ask_99 : decode b_F_ask 99 = .ok (.iload_n 3, 1) := by decide +kernel
theorem d_F_ask_100 : decode b_F_ask 100 = .ok (.iload 6, 2) := by decide +kernel
theorem d_F_ask_102 : decode b_F_ask 102 = .ok (.aload_n 0, 1) := by decide +kernel
theorem d_F_ask_103 : decode b_F_ask 103 = .ok (.getfield 73, 3) := by decide +kernel
theorem d_F_ask_106 : decode b_F_ask 106 = .ok (.invokevirtual 76, 3) := by decide +kernel
theorem d_F_ask_109 : decode b_F_ask 109 = .ok (.aload_n 0, 1) := by decide +kernel
theorem d_F_ask_110 : decode b_F_ask 110 = .ok (.getfield 28, 3) := by decide +kernel
theorem d_F_ask_113 : decode b_F_ask 113 = .ok (.iload_n 2, 1) := by decide +kernel
theorem d_F_ask_114 : decode b_F_ask 114 = .ok (.iload_n 1, 1) := by decide +kernel
theorem d_F_ask_115 : decode b_F_ask 115 = .ok (.iconst 2, 1) := by decide +kernel
theorem d_F_ask_116 : decode b_F_ask 116 = .ok (.iconst 0, 1) := by decide +kernel
theorem d_F_ask_117 : decode b_F_ask 117 = .ok (.invokevirtual 80, 3) := by decide +kernel
theorem d_F_ask_120 : decode b_F_ask 120 = .ok (.iload 6, 2) := by decide +kernel
theorem d_F_ask_122 : decode b_F_ask 122 = .ok (.ireturn, 1) := by decide +kernel
theorem d_F_confirm_0 : decode b_F_confirm 0 = .ok (.iconst 0, 1) := by decide +kernel
theorem d_F_confirm_1 : decode b_F_confirm 1 = .ok (.istore_n 2, 1) := by decide +kernel
theorem d_F_confirm_2 : decode b_F_confirm 2 = .ok (.iload_n 2, 1) := by decide +kernel
theorem d_F_confirm_3 : decode b_F_confirm 3 = .ok (.iconst 3, 1) := by decide +kernel
theorem d_F_confirm_4 : decode b_F_confirm 4 = .ok (.if_icmp .ge 64, 3) := by decide +kernel
theorem d_F_confirm_7 : decode b_F_confirm 7 = .ok (.iconst 0, 1) := by decide +kernel
theorem d_F_confirm_8 : decode b_F_confirm 8 = .ok (.istore_n 3, 1) := by decide +kernel
theorem d_F_confirm_9 : decode b_F_confirm 9 = .ok (.iload_n 3, 1) := by decide +kernel
theorem d_F_confirm_10 : decode b_F_confirm 10 = .ok (.bipush 12, 2) := by decide +kernel
theorem d_F_confirm_12 : decode b_F_confirm 12 = .ok (.if_icmp .ge 50, 3) := by decide +kernel
theorem d_F_confirm_15 : decode b_F_confirm 15 = .ok (.aload_n 0, 1) := by decide +kernel
theorem d_F_confirm_16 : decode b_F_confirm 16 = .ok (.getfield 11, 3) := by decide +kernel
theorem d_F_confirm_19 : decode b_F_confirm 19 = .ok (.iload_n 2, 1) := by decide +kernel
theorem d_F_confirm_20 : decode b_F_confirm 20 = .ok (.aaload, 1) := by decide +kernel
theorem d_F_confirm_21 : decode b_F_confirm 21 = .ok (.getfield 44, 3) := by decide +kernel
theorem d_F_confirm_24 : decode b_F_confirm 24 = .ok (.iload_n 3, 1) := by decide +kernel
theorem d_F_confirm_25 : decode b_F_confirm 25 = .ok (.aaload, 1) := by decide +kernel
theorem d_F_confirm_26 : decode b_F_confirm 26 = .ok (.astore 4, 2) := by decide +kernel
theorem d_F_confirm_28 : decode b_F_confirm 28 = .ok (.aload 4, 2) := by decide +kernel
theorem d_F_confirm_30 : decode b_F_confirm 30 = .ok (.getfield 48, 3) := by decide +kernel
theorem d_F_confirm_33 : decode b_F_confirm 33 = .ok (.ifCond .ne 23, 3) := by decide +kernel
theorem d_F_confirm_36 : decode b_F_confirm 36 = .ok (.aload 4, 2) := by decide +kernel
theorem d_F_confirm_38 : decode b_F_confirm 38 = .ok (.getfield 84, 3) := by decide +kernel
theorem d_F_confirm_41 : decode b_F_confirm 41 = .ok (.iload_n 1, 1) := by decide +kernel
theorem d_F_confirm_42 : decode b_F_confirm 42 = .ok (.if_icmp .ne 14, 3) := by decide +kernel
theorem d_F_confirm_45 : decode b_F_confirm 45 = .ok (.aload 4, 2) := by decide +kernel
theorem d_F_confirm_47 : decode b_F_confirm 47 = .ok (.aload_n 0, 1) := by decide +kernel
theorem d_F_confirm_48 : decode b_F_confirm 48 = .ok (.getfield 73, 3) := by decide +kernel
theorem d_F_confirm_51 : decode b_F_confirm 51 = .ok (.invokevirtual 87, 3) := by decide +kernel
theorem d_F_confirm_54 : decode b_F_confirm 54 = .ok (.iload_n 3, 1) := by decide +kernel
theorem d_F_confirm_55 : decode b_F_confirm 55 = .ok (.ireturn, 1) := by decide +kernel
theorem d_F_confirm_56 : decode b_F_confirm 56 = .ok (.iinc 3 1, 3) := by decide +kernel
theorem d_F_confirm_59 : decode b_F_confirm 59 = .ok (.goto (-50), 3) := by decide +kernel
theorem d_F_confirm_62 : decode b_F_confirm 62 = .ok (.iinc 2 1, 3) := by decide +kernel
theorem d_F_confirm_65 : decode b_F_confirm 65 = .ok (.goto (-63), 3) := by decide +kernel
theorem d_F_confirm_68 : decode b_F_confirm 68 = .ok (.new 90, 3) := by decide +kernel
theorem d_F_confirm_71 : decode b_F_confirm 71 = .ok (.dup, 1) := by decide +kernel
theorem d_F_confirm_72 : decode b_F_confirm 72 = .ok (.ldc 92, 2) := by decide +kernel
theorem d_F_confirm_74 : decode b_F_confirm 74 = .ok (.invokespecial 94, 3) := by decide +kernel
theorem d_F_confirm_77 : decode b_F_confirm 77 = .ok (.athrow, 1) := by decide +kernel
theorem d_F_leave_0 : decode b_F_leave 0 = .ok (.aload_n 0, 1) := by decide +kernel
theorem d_F_leave_1 : decode b_F_leave 1 = .ok (.iload_n 1, 1) := by decide +kernel
theorem d_F_leave_2 : decode b_F_leave 2 = .ok (.iload_n 2, 1) := by decide +kernel
theorem d_F_leave_3 : decode b_F_leave 3 = .ok (.invokevirtual 95, 3) := by decide +kernel
theorem d_F_leave_6 : decode b_F_leave 6 = .ok (.astore_n 3, 1) := by decide +kernel
theorem d_F_leave_7 : decode b_F_leave 7 = .ok (.aload_n 3, 1) := by decide +kernel
theorem d_F_leave_8 : decode b_F_leave 8 = .ok (.getfield 48, 3) := by decide +kernel
theorem d_F_leave_11 : decode b_F_leave 11 = .ok (.istore 4, 2) := by decide +kernel
theorem d_F_leave_13 : decode b_F_leave 13 = .ok (.aload_n 3, 1) := by decide +kernel
theorem d_F_leave_14 : decode b_F_leave 14 = .ok (.invokevirtual 99, 3) := by decide +kernel
theorem d_F_leave_17 : decode b_F_leave 17 = .ok (.iload 4, 2) := by decide +kernel
theorem d_F_leave_19 : decode b_F_leave 19 = .ok (.ireturn, 1) := by decide +kernel
theorem d_F_way_0 : decode b_F_way 0 = .ok (.iload_n 3, 1) := by decide +kernel
theorem d_F_way_1 : decode b_F_way 1 = .ok (.iconst 0, 1) := by decide +kernel
theorem d_F_way_2 : decode b_F_way 2 = .ok (.iconst 2, 1) := by decide +kernel
theorem d_F_way_3 : decode b_F_way 3 = .ok (.invokestatic 36, 3) := by decide +kernel
theorem d_F_way_6 : decode b_F_way 6 = .ok (.invokestatic 40, 3) := by decide +kernel
theorem d_F_way_9 : decode b_F_way 9 = .ok (.aload_n 0, 1) := by decide +kernel
theorem d_F_way_10 : decode b_F_way 10 = .ok (.iload_n 1, 1) := by decide +kernel
theorem d_F_way_11 : decode b_F_way 11 = .ok (.iload_n 2, 1) := by decide +kernel
theorem d_F_way_12 : decode b_F_way 12 = .ok (.invokevirtual 95, 3) := by decide +kernel
theorem d_F_way_15 : decode b_F_way 15 = .ok (.astore 4, 2) := by decide +kernel
theorem d_F_way_17 : decode b_F_way 17 = .ok (.aload 4, 2) := by decide +kernel
theorem d_F_way_19 : decode b_F_way 19 = .ok (.getfield 102, 3) := by decide +kernel
theorem d_F_way_22 : decode b_F_way 22 = .ok (.istore 5, 2) := by decide +kernel
theorem d_F_way_24 : decode b_F_way 24 = .ok (.aload 4, 2) := by decide +kernel
theorem d_F_way_26 : decode b_F_way 26 = .ok (.iload_n 3, 1) := by decide +kernel
theorem d_F_way_27 : decode b_F_way 27 = .ok (.putfield 102, 3) := by decide +kernel
theorem d_F_way_30 : decode b_F_way 30 = .ok (.iload 5, 2) := by decide +kernel
theorem d_F_way_32 : decode b_F_way 32 = .ok (.ireturn, 1) := by decide +kernel
theorem d_F_moderator_0 : decode b_F_moderator 0 = .ok (.aload_n 0, 1) := by decide +kernel
theorem d_F_moderator_1 : decode b_F_moderator 1 = .ok (.iload_n 1, 1) := by decide +kernel
theorem d_F_moderator_2 : decode b_F_moderator 2 = .ok (.iload_n 2, 1) := by decide +kernel
theorem d_F_moderator_3 : decode b_F_moderator 3 = .ok (.invokevirtual 95, 3) := by decide +kernel
theorem d_F_moderator_6 : decode b_F_moderator 6 = .ok (.astore 4, 2) := by decide +kernel
theorem d_F_moderator_8 : decode b_F_moderator 8 = .ok (.aload 4, 2) := by decide +kernel
theorem d_F_moderator_10 : decode b_F_moderator 10 = .ok (.getfield 48, 3) := by decide +kernel
theorem d_F_moderator_13 : decode b_F_moderator 13 = .ok (.ifCond .ne 13, 3) := by decide +kernel
theorem d_F_moderator_16 : decode b_F_moderator 16 = .ok (.new 54, 3) := by decide +kernel
theorem d_F_moderator_19 : decode b_F_moderator 19 = .ok (.dup, 1) := by decide +kernel
theorem d_F_moderator_20 : decode b_F_moderator 20 = .ok (.ldc 105, 2) := by decide +kernel
theorem d_F_moderator_22 : decode b_F_moderator 22 = .ok (.invokespecial 58, 3) := by decide +kernel
theorem d_F_moderator_25 : decode b_F_moderator 25 = .ok (.athrow, 1) := by decide +kernel
theorem d_F_moderator_26 : decode b_F_moderator 26 = .ok (.aload 4, 2) := by decide +kernel
theorem d_F_moderator_28 : decode b_F_moderator 28 = .ok (.getfield 107, 3) := by decide +kernel
theorem d_F_moderator_31 : decode b_F_moderator 31 = .ok (.istore 5, 2) := by decide +kernel
theorem d_F_moderator_33 : decode b_F_moderator 33 = .ok (.aload 4, 2) := by decide +kernel
theorem d_F_moderator_35 : decode b_F_moderator 35 = .ok (.iload_n 3, 1) := by decide +kernel
theorem d_F_moderator_36 : decode b_F_moderator 36 = .ok (.putfield 107, 3) := by decide +kernel
theorem d_F_moderator_39 : decode b_F_moderator 39 = .ok (.iload 5, 2) := by decide +kernel
theorem d_F_moderator_41 : decode b_F_moderator 41 = .ok (.ireturn, 1) := by decide +kernel
theorem d_F_ban_0 : decode b_F_ban 0 = .ok (.iload_n 1, 1) := by decide +kernel
theorem d_F_ban_1 : decode b_F_ban 1 = .ok (.iload_n 2, 1) := by decide +kernel
theorem d_F_ban_2 : decode b_F_ban 2 = .ok (.invokestatic 32, 3) := by decide +kernel
theorem d_F_ban_5 : decode b_F_ban 5 = .ok (.aload_n 0, 1) := by decide +kernel
theorem d_F_ban_6 : decode b_F_ban 6 = .ok (.getfield 11, 3) := by decide +kernel
theorem d_F_ban_9 : decode b_F_ban 9 = .ok (.iload_n 1, 1) := by decide +kernel
theorem d_F_ban_10 : decode b_F_ban 10 = .ok (.aaload, 1) := by decide +kernel
theorem d_F_ban_11 : decode b_F_ban 11 = .ok (.astore 4, 2) := by decide +kernel
theorem d_F_ban_13 : decode b_F_ban 13 = .ok (.aload 4, 2) := by decide +kernel
theorem d_F_ban_15 : decode b_F_ban 15 = .ok (.getfield 61, 3) := by decide +kernel
theorem d_F_ban_18 : decode b_F_ban 18 = .ok (.iload_n 2, 1) := by decide +kernel
theorem d_F_ban_19 : decode b_F_ban 19 = .ok (.baload, 1) := by decide +kernel
theorem d_F_ban_20 : decode b_F_ban 20 = .ok (.istore 5, 2) := by decide +kernel
theorem d_F_ban_22 : decode b_F_ban 22 = .ok (.aload 4, 2) := by decide +kernel
theorem d_F_ban_24 : decode b_F_ban 24 = .ok (.getfield 61, 3) := by decide +kernel
theorem d_F_ban_27 : decode b_F_ban 27 = .ok (.iload_n 2, 1) := by decide +kernel
theorem d_F_ban_28 : decode b_F_ban 28 = .ok (.iload_n 3, 1) := by decide +kernel
theorem d_F_ban_29 : decode b_F_ban 29 = .ok (.bastore, 1) := by decide +kernel
theorem d_F_ban_30 : decode b_F_ban 30 = .ok (.iload_n 3, 1) := by decide +kernel
theorem d_F_ban_31 : decode b_F_ban 31 = .ok (.ifCond .eq 13, 3) := by decide +kernel
theorem d_F_ban_34 : decode b_F_ban 34 = .ok (.aload 4, 2) := by decide +kernel
theorem d_F_ban_36 : decode b_F_ban 36 = .ok (.getfield 44, 3) := by decide +kernel
theorem d_F_ban_39 : decode b_F_ban 39 = .ok (.iload_n 2, 1) := by decide +kernel
theorem d_F_ban_40 : decode b_F_ban 40 = .ok (.aaload, 1) := by decide +kernel
theorem d_F_ban_41 : decode b_F_ban 41 = .ok (.invokevirtual 99, 3) := by decide +kernel
theorem d_F_ban_44 : decode b_F_ban 44 = .ok (.iload 5, 2) := by decide +kernel
theorem d_F_ban_46 : decode b_F_ban 46 = .ok (.ireturn, 1) := by decide +kernel
theorem d_F_setting_0 : decode b_F_setting 0 = .ok (.iload_n 1, 1) := by decide +kernel
theorem d_F_setting_1 : decode b_F_setting 1 = .ok (.iconst 0, 1) := by decide +kernel
theorem d_F_setting_2 : decode b_F_setting 2 = .ok (.iconst 2, 1) := by decide +kernel
theorem d_F_setting_3 : decode b_F_setting 3 = .ok (.invokestatic 36, 3) := by decide +kernel
theorem d_F_setting_6 : decode b_F_setting 6 = .ok (.invokestatic 40, 3) := by decide +kernel
theorem d_F_setting_9 : decode b_F_setting 9 = .ok (.aload_n 0, 1) := by decide +kernel
theorem d_F_setting_10 : decode b_F_setting 10 = .ok (.getfield 11, 3) := by decide +kernel
theorem d_F_setting_13 : decode b_F_setting 13 = .ok (.iload_n 1, 1) := by decide +kernel
theorem d_F_setting_14 : decode b_F_setting 14 = .ok (.aaload, 1) := by decide +kernel
theorem d_F_setting_15 : decode b_F_setting 15 = .ok (.astore 5, 2) := by decide +kernel
theorem d_F_setting_17 : decode b_F_setting 17 = .ok (.iload_n 2, 1) := by decide +kernel
theorem d_F_setting_18 : decode b_F_setting 18 = .ok (.tableswitch 139 0 4 #[34, 51, 68, 88, 108], 34) := by decide +kernel
theorem d_F_setting_52 : decode b_F_setting 52 = .ok (.aload 5, 2) := by decide +kernel
theorem d_F_setting_54 : decode b_F_setting 54 = .ok (.dload_n 3, 1) := by decide +kernel
theorem d_F_setting_55 : decode b_F_setting 55 = .ok (.dconst 0, 1) := by decide +kernel
theorem d_F_setting_56 : decode b_F_setting 56 = .ok (.dcmp .l, 1) := by decide +kernel
theorem d_F_setting_57 : decode b_F_setting 57 = .ok (.ifCond .eq 7, 3) := by decide +kernel
theorem d_F_setting_60 : decode b_F_setting 60 = .ok (.iconst 1, 1) := by decide +kernel
theorem d_F_setting_61 : decode b_F_setting 61 = .ok (.goto 4, 3) := by decide +kernel
theorem d_F_setting_64 : decode b_F_setting 64 = .ok (.iconst 0, 1) := by decide +kernel
theorem d_F_setting_65 : decode b_F_setting 65 = .ok (.invokevirtual 111, 3) := by decide +kernel
theorem d_F_setting_68 : decode b_F_setting 68 = .ok (.dreturn, 1) := by decide +kernel
theorem d_F_setting_69 : decode b_F_setting 69 = .ok (.aload 5, 2) := by decide +kernel
theorem d_F_setting_71 : decode b_F_setting 71 = .ok (.dload_n 3, 1) := by decide +kernel
theorem d_F_setting_72 : decode b_F_setting 72 = .ok (.dconst 0, 1) := by decide +kernel
theorem d_F_setting_73 : decode b_F_setting 73 = .ok (.dcmp .l, 1) := by decide +kernel
theorem d_F_setting_74 : decode b_F_setting 74 = .ok (.ifCond .eq 7, 3) := by decide +kernel
theorem d_F_setting_77 : decode b_F_setting 77 = .ok (.iconst 1, 1) := by decide +kernel
theorem d_F_setting_78 : decode b_F_setting 78 = .ok (.goto 4, 3) := by decide +kernel
theorem d_F_setting_81 : decode b_F_setting 81 = .ok (.iconst 0, 1) := by decide +kernel
theorem d_F_setting_82 : decode b_F_setting 82 = .ok (.invokevirtual 115, 3) := by decide +kernel
theorem d_F_setting_85 : decode b_F_setting 85 = .ok (.dreturn, 1) := by decide +kernel
theorem d_F_setting_86 : decode b_F_setting 86 = .ok (.dload_n 3, 1) := by decide +kernel
theorem d_F_setting_87 : decode b_F_setting 87 = .ok (.d2i, 1) := by decide +kernel
theorem d_F_setting_88 : decode b_F_setting 88 = .ok (.iconst 1, 1) := by decide +kernel
theorem d_F_setting_89 : decode b_F_setting 89 = .ok (.sipush 1000, 3) := by decide +kernel
theorem d_F_setting_92 : decode b_F_setting 92 = .ok (.invokestatic 36, 3) := by decide +kernel
theorem d_F_setting_95 : decode b_F_setting 95 = .ok (.invokestatic 40, 3) := by decide +kernel
theorem d_F_setting_98 : decode b_F_setting 98 = .ok (.aload 5, 2) := by decide +kernel
theorem d_F_setting_100 : decode b_F_setting 100 = .ok (.dload_n 3, 1) := by decide +kernel
theorem d_F_setting_101 : decode b_F_setting 101 = .ok (.d2i, 1) := by decide +kernel
theorem d_F_setting_102 : decode b_F_setting 102 = .ok (.invokevirtual 118, 3) := by decide +kernel
theorem d_F_setting_105 : decode b_F_setting 105 = .ok (.dreturn, 1) := by decide +kernel
theorem d_F_setting_106 : decode b_F_setting 106 = .ok (.dload_n 3, 1) := by decide +kernel
theorem d_F_setting_107 : decode b_F_setting 107 = .ok (.d2i, 1) := by decide +kernel
theorem d_F_setting_108 : decode b_F_setting 108 = .ok (.iconst 1, 1) := by decide +kernel
theorem d_F_setting_109 : decode b_F_setting 109 = .ok (.sipush 1000, 3) := by decide +kernel
theorem d_F_setting_112 : decode b_F_setting 112 = .ok (.invokestatic 36, 3) := by decide +kernel
theorem d_F_setting_115 : decode b_F_setting 115 = .ok (.invokestatic 40, 3) := by decide +kernel
theorem d_F_setting_118 : decode b_F_setting 118 = .ok (.aload 5, 2) := by decide +kernel
theorem d_F_setting_120 : decode b_F_setting 120 = .ok (.dload_n 3, 1) := by decide +kernel
theorem d_F_setting_121 : decode b_F_setting 121 = .ok (.d2i, 1) := by decide +kernel
theorem d_F_setting_122 : decode b_F_setting 122 = .ok (.invokevirtual 122, 3) := by decide +kernel
theorem d_F_setting_125 : decode b_F_setting 125 = .ok (.dreturn, 1) := by decide +kernel
theorem d_F_setting_126 : decode b_F_setting 126 = .ok (.dload_n 3, 1) := by decide +kernel
theorem d_F_setting_127 : decode b_F_setting 127 = .ok (.ldc2_w 125, 3) := by decide +kernel
theorem d_F_setting_130 : decode b_F_setting 130 = .ok (.dcmp .l, 1) := by decide +kernel
theorem d_F_setting_131 : decode b_F_setting 131 = .ok (.ifCond .lt 15, 3) := by decide +kernel
theorem d_F_setting_134 : decode b_F_setting 134 = .ok (.dload_n 3, 1) := by decide +kernel
theorem d_F_setting_135 : decode b_F_setting 135 = .ok (.ldc2_w 127, 3) := by decide +kernel
theorem d_F_setting_138 : decode b_F_setting 138 = .ok (.dcmp .g, 1) := by decide +kernel
theorem d_F_setting_139 : decode b_F_setting 139 = .ok (.ifCond .gt 7, 3) := by decide +kernel
theorem d_F_setting_142 : decode b_F_setting 142 = .ok (.iconst 1, 1) := by decide +kernel
theorem d_F_setting_143 : decode b_F_setting 143 = .ok (.goto 4, 3) := by decide +kernel
theorem d_F_setting_146 : decode b_F_setting 146 = .ok (.iconst 0, 1) := by decide +kernel
theorem d_F_setting_147 : decode b_F_setting 147 = .ok (.invokestatic 40, 3) := by decide +kernel
theorem d_F_setting_150 : decode b_F_setting 150 = .ok (.aload 5, 2) := by decide +kernel
theorem d_F_setting_152 : decode b_F_setting 152 = .ok (.dload_n 3, 1) := by decide +kernel
theorem d_F_setting_153 : decode b_F_setting 153 = .ok (.invokevirtual 129, 3) := by decide +kernel
theorem d_F_setting_156 : decode b_F_setting 156 = .ok (.dreturn, 1) := by decide +kernel
theorem d_F_setting_157 : decode b_F_setting 157 = .ok (.iload_n 2, 1) := by decide +kernel
theorem d_F_setting_158 : decode b_F_setting 158 = .ok (.bipush 10, 2) := by decide +kernel
theorem d_F_setting_160 : decode b_F_setting 160 = .ok (.bipush 19, 2) := by decide +kernel
theorem d_F_setting_162 : decode b_F_setting 162 = .ok (.invokestatic 36, 3) := by decide +kernel
theorem d_F_setting_165 : decode b_F_setting 165 = .ok (.invokestatic 40, 3) := by decide +kernel
theorem d_F_setting_168 : decode b_F_setting 168 = .ok (.aload 5, 2) := by decide +kernel
theorem d_F_setting_170 : decode b_F_setting 170 = .ok (.iload_n 2, 1) := by decide +kernel
theorem d_F_setting_171 : decode b_F_setting 171 = .ok (.bipush 10, 2) := by decide +kernel
theorem d_F_setting_173 : decode b_F_setting 173 = .ok (.isub, 1) := by decide +kernel
theorem d_F_setting_174 : decode b_F_setting 174 = .ok (.dload_n 3, 1) := by decide +kernel
theorem d_F_setting_175 : decode b_F_setting 175 = .ok (.dconst 0, 1) := by decide +kernel
theorem d_F_setting_176 : decode b_F_setting 176 = .ok (.dcmp .l, 1) := by decide +kernel
theorem d_F_setting_177 : decode b_F_setting 177 = .ok (.ifCond .eq 7, 3) := by decide +kernel
theorem d_F_setting_180 : decode b_F_setting 180 = .ok (.iconst 1, 1) := by decide +kernel
theorem d_F_setting_181 : decode b_F_setting 181 = .ok (.goto 4, 3) := by decide +kernel
theorem d_F_setting_184 : decode b_F_setting 184 = .ok (.iconst 0, 1) := by decide +kernel
theorem d_F_setting_185 : decode b_F_setting 185 = .ok (.invokevirtual 133, 3) := by decide +kernel
theorem d_F_setting_188 : decode b_F_setting 188 = .ok (.dreturn, 1) := by decide +kernel
theorem d_F_post_0 : decode b_F_post 0 = .ok (.iload_n 1, 1) := by decide +kernel
theorem d_F_post_1 : decode b_F_post 1 = .ok (.iload_n 2, 1) := by decide +kernel
theorem d_F_post_2 : decode b_F_post 2 = .ok (.invokestatic 32, 3) := by decide +kernel
theorem d_F_post_5 : decode b_F_post 5 = .ok (.iload_n 3, 1) := by decide +kernel
theorem d_F_post_6 : decode b_F_post 6 = .ok (.iconst 1, 1) := by decide +kernel
theorem d_F_post_7 : decode b_F_post 7 = .ok (.sipush 1000, 3) := by decide +kernel
theorem d_F_post_10 : decode b_F_post 10 = .ok (.invokestatic 36, 3) := by decide +kernel
theorem d_F_post_13 : decode b_F_post 13 = .ok (.ifCond .eq 18, 3) := by decide +kernel
theorem d_F_post_16 : decode b_F_post 16 = .ok (.iload 4, 2) := by decide +kernel
theorem d_F_post_18 : decode b_F_post 18 = .ok (.iconst 0, 1) := by decide +kernel
theorem d_F_post_19 : decode b_F_post 19 = .ok (.bipush 9, 2) := by decide +kernel
theorem d_F_post_21 : decode b_F_post 21 = .ok (.invokestatic 36, 3) := by decide +kernel
theorem d_F_post_24 : decode b_F_post 24 = .ok (.ifCond .eq 7, 3) := by decide +kernel
theorem d_F_post_27 : decode b_F_post 27 = .ok (.iconst 1, 1) := by decide +kernel
theorem d_F_post_28 : decode b_F_post 28 = .ok (.goto 4, 3) := by decide +kernel
theorem d_F_post_31 : decode b_F_post 31 = .ok (.iconst 0, 1) := by decide +kernel
theorem d_F_post_32 : decode b_F_post 32 = .ok (.invokestatic 40, 3) := by decide +kernel
theorem d_F_post_35 : decode b_F_post 35 = .ok (.aload_n 0, 1) := by decide +kernel
theorem d_F_post_36 : decode b_F_post 36 = .ok (.getfield 137, 3) := by decide +kernel
theorem d_F_post_39 : decode b_F_post 39 = .ok (.bipush 40, 2) := by decide +kernel
theorem d_F_post_41 : decode b_F_post 41 = .ok (.if_icmp .lt 13, 3) := by decide +kernel
theorem d_F_post_44 : decode b_F_post 44 = .ok (.new 54, 3) := by decide +kernel
theorem d_F_post_47 : decode b_F_post 47 = .ok (.dup, 1) := by decide +kernel
theorem d_F_post_48 : decode b_F_post 48 = .ok (.ldc 140, 2) := by decide +kernel
theorem d_F_post_50 : decode b_F_post 50 = .ok (.invokespecial 58, 3) := by decide +kernel
theorem d_F_post_53 : decode b_F_post 53 = .ok (.athrow, 1) := by decide +kernel
theorem d_F_post_54 : decode b_F_post 54 = .ok (.aload_n 0, 1) := by decide +kernel
theorem d_F_post_55 : decode b_F_post 55 = .ok (.getfield 11, 3) := by decide +kernel
theorem d_F_post_58 : decode b_F_post 58 = .ok (.iload_n 1, 1) := by decide +kernel
theorem d_F_post_59 : decode b_F_post 59 = .ok (.aaload, 1) := by decide +kernel
theorem d_F_post_60 : decode b_F_post 60 = .ok (.astore 5, 2) := by decide +kernel
theorem d_F_post_62 : decode b_F_post 62 = .ok (.aload 5, 2) := by decide +kernel
theorem d_F_post_64 : decode b_F_post 64 = .ok (.iload_n 2, 1) := by decide +kernel
theorem d_F_post_65 : decode b_F_post 65 = .ok (.invokevirtual 142, 3) := by decide +kernel
theorem d_F_post_68 : decode b_F_post 68 = .ok (.ifCond .eq 13, 3) := by decide +kernel
theorem d_F_post_71 : decode b_F_post 71 = .ok (.new 65, 3) := by decide +kernel
theorem d_F_post_74 : decode b_F_post 74 = .ok (.dup, 1) := by decide +kernel
theorem d_F_post_75 : decode b_F_post 75 = .ok (.ldc 146, 2) := by decide +kernel
theorem d_F_post_77 : decode b_F_post 77 = .ok (.invokespecial 69, 3) := by decide +kernel
theorem d_F_post_80 : decode b_F_post 80 = .ok (.athrow, 1) := by decide +kernel
theorem d_F_post_81 : decode b_F_post 81 = .ok (.aload_n 0, 1) := by decide +kernel
theorem d_F_post_82 : decode b_F_post 82 = .ok (.getfield 137, 3) := by decide +kernel
theorem d_F_post_85 : decode b_F_post 85 = .ok (.istore 6, 2) := by decide +kernel
theorem d_F_post_87 : decode b_F_post 87 = .ok (.aload_n 0, 1) := by decide +kernel
theorem d_F_post_88 : decode b_F_post 88 = .ok (.dup, 1) := by decide +kernel
theorem d_F_post_89 : decode b_F_post 89 = .ok (.getfield 137, 3) := by decide +kernel
theorem d_F_post_92 : decode b_F_post 92 = .ok (.iconst 1, 1) := by decide +kernel
theorem d_F_post_93 : decode b_F_post 93 = .ok (.iadd, 1) := by decide +kernel
theorem d_F_post_94 : decode b_F_post 94 = .ok (.putfield 137, 3) := by decide +kernel
theorem d_F_post_97 : decode b_F_post 97 = .ok (.aload_n 0, 1) := by decide +kernel
theorem d_F_post_98 : decode b_F_post 98 = .ok (.getfield 20, 3) := by decide +kernel
theorem d_F_post_101 : decode b_F_post 101 = .ok (.iload 6, 2) := by decide +kernel
theorem d_F_post_103 : decode b_F_post 103 = .ok (.aaload, 1) := by decide +kernel
theorem d_F_post_104 : decode b_F_post 104 = .ok (.iload_n 1, 1) := by decide +kernel
theorem d_F_post_105 : decode b_F_post 105 = .ok (.iload_n 2, 1) := by decide +kernel
theorem d_F_post_106 : decode b_F_post 106 = .ok (.iload_n 3, 1) := by decide +kernel
theorem d_F_post_107 : decode b_F_post 107 = .ok (.invokevirtual 148, 3) := by decide +kernel
theorem d_F_post_110 : decode b_F_post 110 = .ok (.aload 5, 2) := by decide +kernel
theorem d_F_post_112 : decode b_F_post 112 = .ok (.iload_n 2, 1) := by decide +kernel
theorem d_F_post_113 : decode b_F_post 113 = .ok (.iload_n 3, 1) := by decide +kernel
theorem d_F_post_114 : decode b_F_post 114 = .ok (.iload 4, 2) := by decide +kernel
theorem d_F_post_116 : decode b_F_post 116 = .ok (.invokevirtual 151, 3) := by decide +kernel
theorem d_F_post_119 : decode b_F_post 119 = .ok (.ifCond .eq 17, 3) := by decide +kernel
theorem d_F_post_122 : decode b_F_post 122 = .ok (.aload 5, 2) := by decide +kernel
theorem d_F_post_124 : decode b_F_post 124 = .ok (.iload 6, 2) := by decide +kernel
theorem d_F_post_126 : decode b_F_post 126 = .ok (.aload_n 0, 1) := by decide +kernel
theorem d_F_post_127 : decode b_F_post 127 = .ok (.getfield 28, 3) := by decide +kernel
theorem d_F_post_130 : decode b_F_post 130 = .ok (.invokevirtual 154, 3) := by decide +kernel
theorem d_F_post_133 : decode b_F_post 133 = .ok (.goto 9, 3) := by decide +kernel
theorem d_F_post_136 : decode b_F_post 136 = .ok (.aload_n 0, 1) := by decide +kernel
theorem d_F_post_137 : decode b_F_post 137 = .ok (.iload 6, 2) := by decide +kernel
theorem d_F_post_139 : decode b_F_post 139 = .ok (.invokevirtual 158, 3) := by decide +kernel
theorem d_F_post_142 : decode b_F_post 142 = .ok (.iload 6, 2) := by decide +kernel
theorem d_F_post_144 : decode b_F_post 144 = .ok (.ireturn, 1) := by decide +kernel
theorem d_F_judge_0 : decode b_F_judge 0 = .ok (.iload_n 1, 1) := by decide +kernel
theorem d_F_judge_1 : decode b_F_judge 1 = .ok (.iconst 0, 1) := by decide +kernel
theorem d_F_judge_2 : decode b_F_judge 2 = .ok (.bipush 11, 2) := by decide +kernel
theorem d_F_judge_4 : decode b_F_judge 4 = .ok (.invokestatic 36, 3) := by decide +kernel
theorem d_F_judge_7 : decode b_F_judge 7 = .ok (.ifCond .eq 16, 3) := by decide +kernel
theorem d_F_judge_10 : decode b_F_judge 10 = .ok (.iload_n 3, 1) := by decide +kernel
theorem d_F_judge_11 : decode b_F_judge 11 = .ok (.iconst 0, 1) := by decide +kernel
theorem d_F_judge_12 : decode b_F_judge 12 = .ok (.iconst 2, 1) := by decide +kernel
theorem d_F_judge_13 : decode b_F_judge 13 = .ok (.invokestatic 36, 3) := by decide +kernel
theorem d_F_judge_16 : decode b_F_judge 16 = .ok (.ifCond .eq 7, 3) := by decide +kernel
theorem d_F_judge_19 : decode b_F_judge 19 = .ok (.iconst 1, 1) := by decide +kernel
theorem d_F_judge_20 : decode b_F_judge 20 = .ok (.goto 4, 3) := by decide +kernel
theorem d_F_judge_23 : decode b_F_judge 23 = .ok (.iconst 0, 1) := by decide +kernel
theorem d_F_judge_24 : decode b_F_judge 24 = .ok (.invokestatic 40, 3) := by decide +kernel
theorem d_F_judge_27 : decode b_F_judge 27 = .ok (.iload_n 2, 1) := by decide +kernel
theorem d_F_judge_28 : decode b_F_judge 28 = .ok (.iconst 0, 1) := by decide +kernel
theorem d_F_judge_29 : decode b_F_judge 29 = .ok (.aload_n 0, 1) := by decide +kernel
theorem d_F_judge_30 : decode b_F_judge 30 = .ok (.getfield 137, 3) := by decide +kernel
theorem d_F_judge_33 : decode b_F_judge 33 = .ok (.iconst 1, 1) := by decide +kernel
theorem d_F_judge_34 : decode b_F_judge 34 = .ok (.isub, 1) := by decide +kernel
theorem d_F_judge_35 : decode b_F_judge 35 = .ok (.invokestatic 36, 3) := by decide +kernel
theorem d_F_judge_38 : decode b_F_judge 38 = .ok (.ifCond .eq 15, 3) := by decide +kernel
theorem d_F_judge_41 : decode b_F_judge 41 = .ok (.aload_n 0, 1) := by decide +kernel
theorem d_F_judge_42 : decode b_F_judge 42 = .ok (.getfield 20, 3) := by decide +kernel
theorem d_F_judge_45 : decode b_F_judge 45 = .ok (.iload_n 2, 1) := by decide +kernel
theorem d_F_judge_46 : decode b_F_judge 46 = .ok (.aaload, 1) := by decide +kernel
theorem d_F_judge_47 : decode b_F_judge 47 = .ok (.getfield 161, 3) := by decide +kernel
theorem d_F_judge_50 : decode b_F_judge 50 = .ok (.ifCond .eq 13, 3) := by decide +kernel
theorem d_F_judge_53 : decode b_F_judge 53 = .ok (.new 90, 3) := by decide +kernel
theorem d_F_judge_56 : decode b_F_judge 56 = .ok (.dup, 1) := by decide +kernel
theorem d_F_judge_57 : decode b_F_judge 57 = .ok (.ldc 164, 2) := by decide +kernel
theorem d_F_judge_59 : decode b_F_judge 59 = .ok (.invokespecial 94, 3) := by decide +kernel
theorem d_F_judge_62 : decode b_F_judge 62 = .ok (.athrow, 1) := by decide +kernel
theorem d_F_judge_63 : decode b_F_judge 63 = .ok (.aload_n 0, 1) := by decide +kernel
theorem d_F_judge_64 : decode b_F_judge 64 = .ok (.getfield 20, 3) := by decide +kernel
theorem d_F_judge_67 : decode b_F_judge 67 = .ok (.iload_n 2, 1) := by decide +kernel
theorem d_F_judge_68 : decode b_F_judge 68 = .ok (.aaload, 1) := by decide +kernel
theorem d_F_judge_69 : decode b_F_judge 69 = .ok (.astore 4, 2) := by decide +kernel
theorem d_F_judge_71 : decode b_F_judge 71 = .ok (.aload_n 0, 1) := by decide +kernel
theorem d_F_judge_72 : decode b_F_judge 72 = .ok (.getfield 11, 3) := by decide +kernel
theorem d_F_judge_75 : decode b_F_judge 75 = .ok (.aload 4, 2) := by decide +kernel
theorem d_F_judge_77 : decode b_F_judge 77 = .ok (.getfield 166, 3) := by decide +kernel
theorem d_F_judge_80 : decode b_F_judge 80 = .ok (.aaload, 1) := by decide +kernel
theorem d_F_judge_81 : decode b_F_judge 81 = .ok (.getfield 44, 3) := by decide +kernel
theorem d_F_judge_84 : decode b_F_judge 84 = .ok (.iload_n 1, 1) := by decide +kernel
theorem d_F_judge_85 : decode b_F_judge 85 = .ok (.aaload, 1) := by decide +kernel
theorem d_F_judge_86 : decode b_F_judge 86 = .ok (.getfield 107, 3) := by decide +kernel
theorem d_F_judge_89 : decode b_F_judge 89 = .ok (.ifCond .ne 13, 3) := by decide +kernel
theorem d_F_judge_92 : decode b_F_judge 92 = .ok (.new 65, 3) := by decide +kernel
theorem d_F_judge_95 : decode b_F_judge 95 = .ok (.dup, 1) := by decide +kernel
theorem d_F_judge_96 : decode b_F_judge 96 = .ok (.ldc 169, 2) := by decide +kernel
theorem d_F_judge_98 : decode b_F_judge 98 = .ok (.invokespecial 69, 3) := by decide +kernel
theorem d_F_judge_101 : decode b_F_judge 101 = .ok (.athrow, 1) := by decide +kernel
theorem d_F_judge_102 : decode b_F_judge 102 = .ok (.iload_n 3, 1) := by decide +kernel
theorem d_F_judge_103 : decode b_F_judge 103 = .ok (.ifCond .ne 11, 3) := by decide +kernel
theorem d_F_judge_106 : decode b_F_judge 106 = .ok (.aload_n 0, 1) := by decide +kernel
theorem d_F_judge_107 : decode b_F_judge 107 = .ok (.iload_n 2, 1) := by decide +kernel
theorem d_F_judge_108 : decode b_F_judge 108 = .ok (.invokevirtual 158, 3) := by decide +kernel
theorem d_F_judge_111 : decode b_F_judge 111 = .ok (.goto 9, 3) := by decide +kernel
theorem d_F_judge_114 : decode b_F_judge 114 = .ok (.aload 4, 2) := by decide +kernel
theorem d_F_judge_116 : decode b_F_judge 116 = .ok (.iconst 2, 1) := by decide +kernel
theorem d_F_judge_117 : decode b_F_judge 117 = .ok (.putfield 161, 3) := by decide +kernel
theorem d_F_judge_120 : decode b_F_judge 120 = .ok (.iload_n 3, 1) := by decide +kernel
theorem d_F_judge_121 : decode b_F_judge 121 = .ok (.iconst 1, 1) := by decide +kernel
theorem d_F_judge_122 : decode b_F_judge 122 = .ok (.if_icmp .ne 22, 3) := by decide +kernel
theorem d_F_judge_125 : decode b_F_judge 125 = .ok (.aload_n 0, 1) := by decide +kernel
theorem d_F_judge_126 : decode b_F_judge 126 = .ok (.getfield 28, 3) := by decide +kernel
theorem d_F_judge_129 : decode b_F_judge 129 = .ok (.aload 4, 2) := by decide +kernel
theorem d_F_judge_131 : decode b_F_judge 131 = .ok (.getfield 171, 3) := by decide +kernel
theorem d_F_judge_134 : decode b_F_judge 134 = .ok (.aload 4, 2) := by decide +kernel
theorem d_F_judge_136 : decode b_F_judge 136 = .ok (.getfield 166, 3) := by decide +kernel
theorem d_F_judge_139 : decode b_F_judge 139 = .ok (.iconst 4, 1) := by decide +kernel
theorem d_F_judge_140 : decode b_F_judge 140 = .ok (.iload_n 2, 1) := by decide +kernel
theorem d_F_judge_141 : decode b_F_judge 141 = .ok (.invokevirtual 80, 3) := by decide +kernel
theorem d_F_judge_144 : decode b_F_judge 144 = .ok (.aload_n 0, 1) := by decide +kernel
theorem d_F_judge_145 : decode b_F_judge 145 = .ok (.iconst 0, 1) := by decide +kernel
theorem d_F_judge_146 : decode b_F_judge 146 = .ok (.invokevirtual 174, 3) := by decide +kernel
theorem d_F_judge_149 : decode b_F_judge 149 = .ok (.ireturn, 1) := by decide +kernel
theorem d_F_bounce_0 : decode b_F_bounce 0 = .ok (.aload_n 0, 1) := by decide +kernel
theorem d_F_bounce_1 : decode b_F_bounce 1 = .ok (.iload_n 1, 1) := by decide +kernel
theorem d_F_bounce_2 : decode b_F_bounce 2 = .ok (.iload_n 2, 1) := by decide +kernel
theorem d_F_bounce_3 : decode b_F_bounce 3 = .ok (.invokevirtual 95, 3) := by decide +kernel
theorem d_F_bounce_6 : decode b_F_bounce 6 = .ok (.astore 4, 2) := by decide +kernel
theorem d_F_bounce_8 : decode b_F_bounce 8 = .ok (.aload 4, 2) := by decide +kernel
theorem d_F_bounce_10 : decode b_F_bounce 10 = .ok (.getfield 48, 3) := by decide +kernel
theorem d_F_bounce_13 : decode b_F_bounce 13 = .ok (.iconst 1, 1) := by decide +kernel
theorem d_F_bounce_14 : decode b_F_bounce 14 = .ok (.if_icmp .eq 13, 3) := by decide +kernel
theorem d_F_bounce_17 : decode b_F_bounce 17 = .ok (.new 54, 3) := by decide +kernel
theorem d_F_bounce_20 : decode b_F_bounce 20 = .ok (.dup, 1) := by decide +kernel
theorem d_F_bounce_21 : decode b_F_bounce 21 = .ok (.ldc 178, 2) := by decide +kernel
theorem d_F_bounce_23 : decode b_F_bounce 23 = .ok (.invokespecial 58, 3) := by decide +kernel
theorem d_F_bounce_26 : decode b_F_bounce 26 = .ok (.athrow, 1) := by decide +kernel
theorem d_F_bounce_27 : decode b_F_bounce 27 = .ok (.aload 4, 2) := by decide +kernel
theorem d_F_bounce_29 : decode b_F_bounce 29 = .ok (.getfield 180, 3) := by decide +kernel
theorem d_F_bounce_32 : decode b_F_bounce 32 = .ok (.aload_n 0, 1) := by decide +kernel
theorem d_F_bounce_33 : decode b_F_bounce 33 = .ok (.getfield 73, 3) := by decide +kernel
theorem d_F_bounce_36 : decode b_F_bounce 36 = .ok (.if_icmp .eq 75, 3) := by decide +kernel
theorem d_F_bounce_39 : decode b_F_bounce 39 = .ok (.aload 4, 2) := by decide +kernel
theorem d_F_bounce_41 : decode b_F_bounce 41 = .ok (.aload_n 0, 1) := by decide +kernel
theorem d_F_bounce_42 : decode b_F_bounce 42 = .ok (.getfield 73, 3) := by decide +kernel
theorem d_F_bounce_45 : decode b_F_bounce 45 = .ok (.putfield 180, 3) := by decide +kernel
theorem d_F_bounce_48 : decode b_F_bounce 48 = .ok (.aload 4, 2) := by decide +kernel
theorem d_F_bounce_50 : decode b_F_bounce 50 = .ok (.dup, 1) := by decide +kernel
theorem d_F_bounce_51 : decode b_F_bounce 51 = .ok (.getfield 183, 3) := by decide +kernel
theorem d_F_bounce_54 : decode b_F_bounce 54 = .ok (.iload_n 3, 1) := by decide +kernel
theorem d_F_bounce_55 : decode b_F_bounce 55 = .ok (.ifCond .eq 7, 3) := by decide +kernel
theorem d_F_bounce_58 : decode b_F_bounce 58 = .ok (.dconst 1, 1) := by decide +kernel
theorem d_F_bounce_59 : decode b_F_bounce 59 = .ok (.goto 6, 3) := by decide +kernel
theorem d_F_bounce_62 : decode b_F_bounce 62 = .ok (.ldc2_w 125, 3) := by decide +kernel
theorem d_F_bounce_65 : decode b_F_bounce 65 = .ok (.dadd, 1) := by decide +kernel
theorem d_F_bounce_66 : decode b_F_bounce 66 = .ok (.putfield 183, 3) := by decide +kernel
theorem d_F_bounce_69 : decode b_F_bounce 69 = .ok (.aload 4, 2) := by decide +kernel
theorem d_F_bounce_71 : decode b_F_bounce 71 = .ok (.getfield 183, 3) := by decide +kernel
theorem d_F_bounce_74 : decode b_F_bounce 74 = .ok (.aload_n 0, 1) := by decide +kernel
theorem d_F_bounce_75 : decode b_F_bounce 75 = .ok (.getfield 11, 3) := by decide +kernel
theorem d_F_bounce_78 : decode b_F_bounce 78 = .ok (.iload_n 1, 1) := by decide +kernel
theorem d_F_bounce_79 : decode b_F_bounce 79 = .ok (.aaload, 1) := by decide +kernel
theorem d_F_bounce_80 : decode b_F_bounce 80 = .ok (.getfield 187, 3) := by decide +kernel
theorem d_F_bounce_83 : decode b_F_bounce 83 = .ok (.dcmp .l, 1) := by decide +kernel
theorem d_F_bounce_84 : decode b_F_bounce 84 = .ok (.ifCond .lt 27, 3) := by decide +kernel
theorem d_F_bounce_87 : decode b_F_bounce 87 = .ok (.aload 4, 2) := by decide +kernel
theorem d_F_bounce_89 : decode b_F_bounce 89 = .ok (.aload_n 0, 1) := by decide +kernel
theorem d_F_bounce_90 : decode b_F_bounce 90 = .ok (.getfield 73, 3) := by decide +kernel
theorem d_F_bounce_93 : decode b_F_bounce 93 = .ok (.invokevirtual 190, 3) := by decide +kernel
theorem d_F_bounce_96 : decode b_F_bounce 96 = .ok (.aload_n 0, 1) := by decide +kernel
theorem d_F_bounce_97 : decode b_F_bounce 97 = .ok (.getfield 28, 3) := by decide +kernel
theorem d_F_bounce_100 : decode b_F_bounce 100 = .ok (.iload_n 2, 1) := by decide +kernel
theorem d_F_bounce_101 : decode b_F_bounce 101 = .ok (.iload_n 1, 1) := by decide +kernel
theorem d_F_bounce_102 : decode b_F_bounce 102 = .ok (.iconst 5, 1) := by decide +kernel
theorem d_F_bounce_103 : decode b_F_bounce 103 = .ok (.aload 4, 2) := by decide +kernel
theorem d_F_bounce_105 : decode b_F_bounce 105 = .ok (.getfield 193, 3) := by decide +kernel
theorem d_F_bounce_108 : decode b_F_bounce 108 = .ok (.invokevirtual 80, 3) := by decide +kernel
theorem d_F_bounce_111 : decode b_F_bounce 111 = .ok (.aload 4, 2) := by decide +kernel
theorem d_F_bounce_113 : decode b_F_bounce 113 = .ok (.getfield 183, 3) := by decide +kernel
theorem d_F_bounce_116 : decode b_F_bounce 116 = .ok (.dreturn, 1) := by decide +kernel
theorem d_F_renew_0 : decode b_F_renew 0 = .ok (.aload_n 0, 1) := by decide +kernel
theorem d_F_renew_1 : decode b_F_renew 1 = .ok (.iload_n 1, 1) := by decide +kernel
theorem d_F_renew_2 : decode b_F_renew 2 = .ok (.iload_n 2, 1) := by decide +kernel
theorem d_F_renew_3 : decode b_F_renew 3 = .ok (.invokevirtual 95, 3) := by decide +kernel
theorem d_F_renew_6 : decode b_F_renew 6 = .ok (.astore_n 3, 1) := by decide +kernel
theorem d_F_renew_7 : decode b_F_renew 7 = .ok (.aload_n 3, 1) := by decide +kernel
theorem d_F_renew_8 : decode b_F_renew 8 = .ok (.getfield 48, 3) := by decide +kernel
theorem d_F_renew_11 : decode b_F_renew 11 = .ok (.iconst 2, 1) := by decide +kernel
theorem d_F_renew_12 : decode b_F_renew 12 = .ok (.if_icmp .eq 13, 3) := by decide +kernel
theorem d_F_renew_15 : decode b_F_renew 15 = .ok (.new 54, 3) := by decide +kernel
theorem d_F_renew_18 : decode b_F_renew 18 = .ok (.dup, 1) := by decide +kernel
theorem d_F_renew_19 : decode b_F_renew 19 = .ok (.ldc 196, 2) := by decide +kernel
theorem d_F_renew_21 : decode b_F_renew 21 = .ok (.invokespecial 58, 3) := by decide +kernel
theorem d_F_renew_24 : decode b_F_renew 24 = .ok (.athrow, 1) := by decide +kernel
theorem d_F_renew_25 : decode b_F_renew 25 = .ok (.aload_n 3, 1) := by decide +kernel
theorem d_F_renew_26 : decode b_F_renew 26 = .ok (.getfield 193, 3) := by decide +kernel
theorem d_F_renew_29 : decode b_F_renew 29 = .ok (.istore 4, 2) := by decide +kernel
theorem d_F_renew_31 : decode b_F_renew 31 = .ok (.aload_n 3, 1) := by decide +kernel
theorem d_F_renew_32 : decode b_F_renew 32 = .ok (.aload_n 0, 1) := by decide +kernel
theorem d_F_renew_33 : decode b_F_renew 33 = .ok (.getfield 73, 3) := by decide +kernel
theorem d_F_renew_36 : decode b_F_renew 36 = .ok (.invokevirtual 87, 3) := by decide +kernel
theorem d_F_renew_39 : decode b_F_renew 39 = .ok (.iload 4, 2) := by decide +kernel
theorem d_F_renew_41 : decode b_F_renew 41 = .ok (.ireturn, 1) := by decide +kernel
theorem d_F_tick_0 : decode b_F_tick 0 = .ok (.iload_n 1, 1) := by decide +kernel
theorem d_F_tick_1 : decode b_F_tick 1 = .ok (.iconst 1, 1) := by decide +kernel
theorem d_F_tick_2 : decode b_F_tick 2 = .ok (.bipush 20, 2) := by decide +kernel
theorem d_F_tick_4 : decode b_F_tick 4 = .ok (.invokestatic 36, 3) := by decide +kernel
theorem d_F_tick_7 : decode b_F_tick 7 = .ok (.invokestatic 40, 3) := by decide +kernel
theorem d_F_tick_10 : decode b_F_tick 10 = .ok (.iconst 0, 1) := by decide +kernel
theorem d_F_tick_11 : decode b_F_tick 11 = .ok (.istore_n 2, 1) := by decide +kernel
theorem d_F_tick_12 : decode b_F_tick 12 = .ok (.iload_n 2, 1) := by decide +kernel
theorem d_F_tick_13 : decode b_F_tick 13 = .ok (.iload_n 1, 1) := by decide +kernel
theorem d_F_tick_14 : decode b_F_tick 14 = .ok (.if_icmp .ge 49, 3) := by decide +kernel
theorem d_F_tick_17 : decode b_F_tick 17 = .ok (.aload_n 0, 1) := by decide +kernel
theorem d_F_tick_18 : decode b_F_tick 18 = .ok (.dup, 1) := by decide +kernel
theorem d_F_tick_19 : decode b_F_tick 19 = .ok (.getfield 73, 3) := by decide +kernel
theorem d_F_tick_22 : decode b_F_tick 22 = .ok (.iconst 1, 1) := by decide +kernel
theorem d_F_tick_23 : decode b_F_tick 23 = .ok (.iadd, 1) := by decide +kernel
theorem d_F_tick_24 : decode b_F_tick 24 = .ok (.putfield 73, 3) := by decide +kernel
theorem d_F_tick_27 : decode b_F_tick 27 = .ok (.iconst 0, 1) := by decide +kernel
theorem d_F_tick_28 : decode b_F_tick 28 = .ok (.istore_n 3, 1) := by decide +kernel
theorem d_F_tick_29 : decode b_F_tick 29 = .ok (.iload_n 3, 1) := by decide +kernel
theorem d_F_tick_30 : decode b_F_tick 30 = .ok (.iconst 3, 1) := by decide +kernel
theorem d_F_tick_31 : decode b_F_tick 31 = .ok (.if_icmp .ge 26, 3) := by decide +kernel
theorem d_F_tick_34 : decode b_F_tick 34 = .ok (.aload_n 0, 1) := by decide +kernel
theorem d_F_tick_35 : decode b_F_tick 35 = .ok (.getfield 11, 3) := by decide +kernel
theorem d_F_tick_38 : decode b_F_tick 38 = .ok (.iload_n 3, 1) := by decide +kernel
theorem d_F_tick_39 : decode b_F_tick 39 = .ok (.aaload, 1) := by decide +kernel
theorem d_F_tick_40 : decode b_F_tick 40 = .ok (.aload_n 0, 1) := by decide +kernel
theorem d_F_tick_41 : decode b_F_tick 41 = .ok (.getfield 73, 3) := by decide +kernel
theorem d_F_tick_44 : decode b_F_tick 44 = .ok (.aload_n 0, 1) := by decide +kernel
theorem d_F_tick_45 : decode b_F_tick 45 = .ok (.getfield 28, 3) := by decide +kernel
theorem d_F_tick_48 : decode b_F_tick 48 = .ok (.invokevirtual 198, 3) := by decide +kernel
theorem d_F_tick_51 : decode b_F_tick 51 = .ok (.iinc 3 1, 3) := by decide +kernel
theorem d_F_tick_54 : decode b_F_tick 54 = .ok (.goto (-25), 3) := by decide +kernel
theorem d_F_tick_57 : decode b_F_tick 57 = .ok (.iinc 2 1, 3) := by decide +kernel
theorem d_F_tick_60 : decode b_F_tick 60 = .ok (.goto (-48), 3) := by decide +kernel
theorem d_F_tick_63 : decode b_F_tick 63 = .ok (.aload_n 0, 1) := by decide +kernel
theorem d_F_tick_64 : decode b_F_tick 64 = .ok (.getfield 73, 3) := by decide +kernel
theorem d_F_tick_67 : decode b_F_tick 67 = .ok (.ireturn, 1) := by decide +kernel
theorem d_F_told_0 : decode b_F_told 0 = .ok (.iload_n 3, 1) := by decide +kernel
theorem d_F_told_1 : decode b_F_told 1 = .ok (.iconst 0, 1) := by decide +kernel
theorem d_F_told_2 : decode b_F_told 2 = .ok (.iconst 4, 1) := by decide +kernel
theorem d_F_told_3 : decode b_F_told 3 = .ok (.invokestatic 36, 3) := by decide +kernel
theorem d_F_told_6 : decode b_F_told 6 = .ok (.invokestatic 40, 3) := by decide +kernel
theorem d_F_told_9 : decode b_F_told 9 = .ok (.aload_n 0, 1) := by decide +kernel
theorem d_F_told_10 : decode b_F_told 10 = .ok (.iload_n 1, 1) := by decide +kernel
theorem d_F_told_11 : decode b_F_told 11 = .ok (.iload_n 2, 1) := by decide +kernel
theorem d_F_told_12 : decode b_F_told 12 = .ok (.invokevirtual 95, 3) := by decide +kernel
theorem d_F_told_15 : decode b_F_told 15 = .ok (.astore 4, 2) := by decide +kernel
theorem d_F_told_17 : decode b_F_told 17 = .ok (.iload_n 3, 1) := by decide +kernel
theorem d_F_told_18 : decode b_F_told 18 = .ok (.tableswitch 62 0 3 #[30, 36, 42, 56], 30) := by decide +kernel
theorem d_F_told_48 : decode b_F_told 48 = .ok (.aload 4, 2) := by decide +kernel
theorem d_F_told_50 : decode b_F_told 50 = .ok (.getfield 48, 3) := by decide +kernel
theorem d_F_told_53 : decode b_F_told 53 = .ok (.ireturn, 1) := by decide +kernel
theorem d_F_told_54 : decode b_F_told 54 = .ok (.aload 4, 2) := by decide +kernel
theorem d_F_told_56 : decode b_F_told 56 = .ok (.getfield 102, 3) := by decide +kernel
theorem d_F_told_59 : decode b_F_told 59 = .ok (.ireturn, 1) := by decide +kernel
theorem d_F_told_60 : decode b_F_told 60 = .ok (.aload 4, 2) := by decide +kernel
theorem d_F_told_62 : decode b_F_told 62 = .ok (.getfield 107, 3) := by decide +kernel
theorem d_F_told_65 : decode b_F_told 65 = .ok (.ifCond .eq 7, 3) := by decide +kernel
theorem d_F_told_68 : decode b_F_told 68 = .ok (.iconst 1, 1) := by decide +kernel
theorem d_F_told_69 : decode b_F_told 69 = .ok (.goto 4, 3) := by decide +kernel
theorem d_F_told_72 : decode b_F_told 72 = .ok (.iconst 0, 1) := by decide +kernel
theorem d_F_told_73 : decode b_F_told 73 = .ok (.ireturn, 1) := by decide +kernel
theorem d_F_told_74 : decode b_F_told 74 = .ok (.aload 4, 2) := by decide +kernel
theorem d_F_told_76 : decode b_F_told 76 = .ok (.getfield 193, 3) := by decide +kernel
theorem d_F_told_79 : decode b_F_told 79 = .ok (.ireturn, 1) := by decide +kernel
theorem d_F_told_80 : decode b_F_told 80 = .ok (.aload 4, 2) := by decide +kernel
theorem d_F_told_82 : decode b_F_told 82 = .ok (.getfield 201, 3) := by decide +kernel
theorem d_F_told_85 : decode b_F_told 85 = .ok (.ireturn, 1) := by decide +kernel
theorem d_F_score_0 : decode b_F_score 0 = .ok (.aload_n 0, 1) := by decide +kernel
theorem d_F_score_1 : decode b_F_score 1 = .ok (.iload_n 1, 1) := by decide +kernel
theorem d_F_score_2 : decode b_F_score 2 = .ok (.iload_n 2, 1) := by decide +kernel
theorem d_F_score_3 : decode b_F_score 3 = .ok (.invokevirtual 95, 3) := by decide +kernel
theorem d_F_score_6 : decode b_F_score 6 = .ok (.getfield 183, 3) := by decide +kernel
theorem d_F_score_9 : decode b_F_score 9 = .ok (.dreturn, 1) := by decide +kernel
theorem d_F_sent_0 : decode b_F_sent 0 = .ok (.iload_n 2, 1) := by decide +kernel
theorem d_F_sent_1 : decode b_F_sent 1 = .ok (.iconst 0, 1) := by decide +kernel
theorem d_F_sent_2 : decode b_F_sent 2 = .ok (.iconst 3, 1) := by decide +kernel
theorem d_F_sent_3 : decode b_F_sent 3 = .ok (.invokestatic 36, 3) := by decide +kernel
theorem d_F_sent_6 : decode b_F_sent 6 = .ok (.invokestatic 40, 3) := by decide +kernel
theorem d_F_sent_9 : decode b_F_sent 9 = .ok (.iload_n 1, 1) := by decide +kernel
theorem d_F_sent_10 : decode b_F_sent 10 = .ok (.iconst 0, 1) := by decide +kernel
theorem d_F_sent_11 : decode b_F_sent 11 = .ok (.aload_n 0, 1) := by decide +kernel
theorem d_F_sent_12 : decode b_F_sent 12 = .ok (.getfield 28, 3) := by decide +kernel
theorem d_F_sent_15 : decode b_F_sent 15 = .ok (.getfield 204, 3) := by decide +kernel
theorem d_F_sent_18 : decode b_F_sent 18 = .ok (.iconst 1, 1) := by decide +kernel
theorem d_F_sent_19 : decode b_F_sent 19 = .ok (.isub, 1) := by decide +kernel
theorem d_F_sent_20 : decode b_F_sent 20 = .ok (.invokestatic 36, 3) := by decide +kernel
theorem d_F_sent_23 : decode b_F_sent 23 = .ok (.ifCond .ne 13, 3) := by decide +kernel
theorem d_F_sent_26 : decode b_F_sent 26 = .ok (.new 207, 3) := by decide +kernel
theorem d_F_sent_29 : decode b_F_sent 29 = .ok (.dup, 1) := by decide +kernel
theorem d_F_sent_30 : decode b_F_sent 30 = .ok (.ldc 209, 2) := by decide +kernel
theorem d_F_sent_32 : decode b_F_sent 32 = .ok (.invokespecial 211, 3) := by decide +kernel
theorem d_F_sent_35 : decode b_F_sent 35 = .ok (.athrow, 1) := by decide +kernel
theorem d_F_sent_36 : decode b_F_sent 36 = .ok (.iload_n 2, 1) := by decide +kernel
theorem d_F_sent_37 : decode b_F_sent 37 = .ok (.tableswitch 57 0 2 #[27, 37, 47], 27) := by decide +kernel
theorem d_F_sent_64 : decode b_F_sent 64 = .ok (.aload_n 0, 1) := by decide +kernel
theorem d_F_sent_65 : decode b_F_sent 65 = .ok (.getfield 28, 3) := by decide +kernel
theorem d_F_sent_68 : decode b_F_sent 68 = .ok (.getfield 212, 3) := by decide +kernel
theorem d_F_sent_71 : decode b_F_sent 71 = .ok (.iload_n 1, 1) := by decide +kernel
theorem d_F_sent_72 : decode b_F_sent 72 = .ok (.iaload, 1) := by decide +kernel
theorem d_F_sent_73 : decode b_F_sent 73 = .ok (.ireturn, 1) := by decide +kernel
theorem d_F_sent_74 : decode b_F_sent 74 = .ok (.aload_n 0, 1) := by decide +kernel
theorem d_F_sent_75 : decode b_F_sent 75 = .ok (.getfield 28, 3) := by decide +kernel
theorem d_F_sent_78 : decode b_F_sent 78 = .ok (.getfield 216, 3) := by decide +kernel
theorem d_F_sent_81 : decode b_F_sent 81 = .ok (.iload_n 1, 1) := by decide +kernel
theorem d_F_sent_82 : decode b_F_sent 82 = .ok (.iaload, 1) := by decide +kernel
theorem d_F_sent_83 : decode b_F_sent 83 = .ok (.ireturn, 1) := by decide +kernel
theorem d_F_sent_84 : decode b_F_sent 84 = .ok (.aload_n 0, 1) := by decide +kernel
theorem d_F_sent_85 : decode b_F_sent 85 = .ok (.getfield 28, 3) := by decide +kernel
theorem d_F_sent_88 : decode b_F_sent 88 = .ok (.getfield 218, 3) := by decide +kernel
theorem d_F_sent_91 : decode b_F_sent 91 = .ok (.iload_n 1, 1) := by decide +kernel
theorem d_F_sent_92 : decode b_F_sent 92 = .ok (.iaload, 1) := by decide +kernel
theorem d_F_sent_93 : decode b_F_sent 93 = .ok (.ireturn, 1) := by decide +kernel
theorem d_F_sent_94 : decode b_F_sent 94 = .ok (.aload_n 0, 1) := by decide +kernel
theorem d_F_sent_95 : decode b_F_sent 95 = .ok (.getfield 28, 3) := by decide +kernel
theorem d_F_sent_98 : decode b_F_sent 98 = .ok (.getfield 221, 3) := by decide +kernel
theorem d_F_sent_101 : decode b_F_sent 101 = .ok (.iload_n 1, 1) := by decide +kernel
theorem d_F_sent_102 : decode b_F_sent 102 = .ok (.iaload, 1) := by decide +kernel
theorem d_F_sent_103 : decode b_F_sent 103 = .ok (.ireturn, 1) := by decide +kernel
theorem d_F_count_0 : decode b_F_count 0 = .ok (.iload_n 1, 1) := by decide +kernel
theorem d_F_count_1 : decode b_F_count 1 = .ok (.tableswitch 65 0 4 #[35, 40, 45, 51, 57], 35) := by decide +kernel
theorem d_F_count_36 : decode b_F_count 36 = .ok (.aload_n 0, 1) := by decide +kernel
theorem d_F_count_37 : decode b_F_count 37 = .ok (.getfield 73, 3) := by decide +kernel
theorem d_F_count_40 : decode b_F_count 40 = .ok (.ireturn, 1) := by decide +kernel
theorem d_F_count_41 : decode b_F_count 41 = .ok (.aload_n 0, 1) := by decide +kernel
theorem d_F_count_42 : decode b_F_count 42 = .ok (.getfield 137, 3) := by decide +kernel
theorem d_F_count_45 : decode b_F_count 45 = .ok (.ireturn, 1) := by decide +kernel
theorem d_F_count_46 : decode b_F_count 46 = .ok (.aload_n 0, 1) := by decide +kernel
theorem d_F_count_47 : decode b_F_count 47 = .ok (.iconst 0, 1) := by decide +kernel
theorem d_F_count_48 : decode b_F_count 48 = .ok (.invokevirtual 174, 3) := by decide +kernel
theorem d_F_count_51 : decode b_F_count 51 = .ok (.ireturn, 1) := by decide +kernel
theorem d_F_count_52 : decode b_F_count 52 = .ok (.aload_n 0, 1) := by decide +kernel
theorem d_F_count_53 : decode b_F_count 53 = .ok (.iconst 1, 1) := by decide +kernel
theorem d_F_count_54 : decode b_F_count 54 = .ok (.invokevirtual 174, 3) := by decide +kernel
theorem d_F_count_57 : decode b_F_count 57 = .ok (.ireturn, 1) := by decide +kernel
theorem d_F_count_58 : decode b_F_count 58 = .ok (.aload_n 0, 1) := by decide +kernel
theorem d_F_count_59 : decode b_F_count 59 = .ok (.getfield 28, 3) := by decide +kernel
theorem d_F_count_62 : decode b_F_count 62 = .ok (.getfield 224, 3) := by decide +kernel
theorem d_F_count_65 : decode b_F_count 65 = .ok (.ireturn, 1) := by decide +kernel
theorem d_F_count_66 : decode b_F_count 66 = .ok (.iload_n 1, 1) := by decide +kernel
theorem d_F_count_67 : decode b_F_count 67 = .ok (.bipush 10, 2) := by decide +kernel
theorem d_F_count_69 : decode b_F_count 69 = .ok (.bipush 49, 2) := by decide +kernel
theorem d_F_count_71 : decode b_F_count 71 = .ok (.invokestatic 36, 3) := by decide +kernel
theorem d_F_count_74 : decode b_F_count 74 = .ok (.ifCond .eq 15, 3) := by decide +kernel
theorem d_F_count_77 : decode b_F_count 77 = .ok (.iload_n 1, 1) := by decide +kernel
theorem d_F_count_78 : decode b_F_count 78 = .ok (.bipush 10, 2) := by decide +kernel
theorem d_F_count_80 : decode b_F_count 80 = .ok (.irem, 1) := by decide +kernel
theorem d_F_count_81 : decode b_F_count 81 = .ok (.iconst 3, 1) := by decide +kernel
