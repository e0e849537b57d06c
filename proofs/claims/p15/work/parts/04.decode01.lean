theorem d_F_count_82 : decode b_F_count 82 = .ok (.if_icmp .ge 7, 3) := by decide +kernel
theorem d_F_count_85 : decode b_F_count 85 = .ok (.iconst 1, 1) := by decide +kernel
theorem d_F_count_86 : decode b_F_count 86 = .ok (.goto 4, 3) := by decide +kernel
theorem d_F_count_89 : decode b_F_count 89 = .ok (.iconst 0, 1) := by decide +kernel
theorem d_F_count_90 : decode b_F_count 90 = .ok (.invokestatic 40, 3) := by decide +kernel
theorem d_F_count_93 : decode b_F_count 93 = .ok (.aload_n 0, 1) := by decide +kernel
theorem d_F_count_94 : decode b_F_count 94 = .ok (.getfield 11, 3) := by decide +kernel
theorem d_F_count_97 : decode b_F_count 97 = .ok (.iload_n 1, 1) := by decide +kernel
theorem d_F_count_98 : decode b_F_count 98 = .ok (.bipush 10, 2) := by decide +kernel
theorem d_F_count_100 : decode b_F_count 100 = .ok (.irem, 1) := by decide +kernel
theorem d_F_count_101 : decode b_F_count 101 = .ok (.aaload, 1) := by decide +kernel
theorem d_F_count_102 : decode b_F_count 102 = .ok (.iload_n 1, 1) := by decide +kernel
theorem d_F_count_103 : decode b_F_count 103 = .ok (.bipush 10, 2) := by decide +kernel
theorem d_F_count_105 : decode b_F_count 105 = .ok (.idiv, 1) := by decide +kernel
theorem d_F_count_106 : decode b_F_count 106 = .ok (.invokestatic 227, 3) := by decide +kernel
theorem d_F_count_109 : decode b_F_count 109 = .ok (.ireturn, 1) := by decide +kernel
theorem d_F_countOfList_0 : decode b_F_countOfList 0 = .ok (.iload_n 1, 1) := by decide +kernel
theorem d_F_countOfList_1 : decode b_F_countOfList 1 = .ok (.tableswitch 42 1 3 #[27, 32, 37], 27) := by decide +kernel
theorem d_F_countOfList_28 : decode b_F_countOfList 28 = .ok (.aload_n 0, 1) := by decide +kernel
theorem d_F_countOfList_29 : decode b_F_countOfList 29 = .ok (.invokevirtual 231, 3) := by decide +kernel
theorem d_F_countOfList_32 : decode b_F_countOfList 32 = .ok (.ireturn, 1) := by decide +kernel
theorem d_F_countOfList_33 : decode b_F_countOfList 33 = .ok (.aload_n 0, 1) := by decide +kernel
theorem d_F_countOfList_34 : decode b_F_countOfList 34 = .ok (.invokevirtual 235, 3) := by decide +kernel
theorem d_F_countOfList_37 : decode b_F_countOfList 37 = .ok (.ireturn, 1) := by decide +kernel
theorem d_F_countOfList_38 : decode b_F_countOfList 38 = .ok (.aload_n 0, 1) := by decide +kernel
theorem d_F_countOfList_39 : decode b_F_countOfList 39 = .ok (.getfield 238, 3) := by decide +kernel
theorem d_F_countOfList_42 : decode b_F_countOfList 42 = .ok (.ireturn, 1) := by decide +kernel
theorem d_F_countOfList_43 : decode b_F_countOfList 43 = .ok (.aload_n 0, 1) := by decide +kernel
theorem d_F_countOfList_44 : decode b_F_countOfList 44 = .ok (.getfield 241, 3) := by decide +kernel
theorem d_F_countOfList_47 : decode b_F_countOfList 47 = .ok (.ireturn, 1) := by decide +kernel
theorem d_F_postsThatAre_0 : decode b_F_postsThatAre 0 = .ok (.iconst 0, 1) := by decide +kernel
theorem d_F_postsThatAre_1 : decode b_F_postsThatAre 1 = .ok (.istore_n 2, 1) := by decide +kernel
theorem d_F_postsThatAre_2 : decode b_F_postsThatAre 2 = .ok (.iconst 0, 1) := by decide +kernel
theorem d_F_postsThatAre_3 : decode b_F_postsThatAre 3 = .ok (.istore_n 3, 1) := by decide +kernel
theorem d_F_postsThatAre_4 : decode b_F_postsThatAre 4 = .ok (.iload_n 3, 1) := by decide +kernel
theorem d_F_postsThatAre_5 : decode b_F_postsThatAre 5 = .ok (.aload_n 0, 1) := by decide +kernel
theorem d_F_postsThatAre_6 : decode b_F_postsThatAre 6 = .ok (.getfield 137, 3) := by decide +kernel
theorem d_F_postsThatAre_9 : decode b_F_postsThatAre 9 = .ok (.if_icmp .ge 25, 3) := by decide +kernel
theorem d_F_postsThatAre_12 : decode b_F_postsThatAre 12 = .ok (.aload_n 0, 1) := by decide +kernel
theorem d_F_postsThatAre_13 : decode b_F_postsThatAre 13 = .ok (.getfield 20, 3) := by decide +kernel
theorem d_F_postsThatAre_16 : decode b_F_postsThatAre 16 = .ok (.iload_n 3, 1) := by decide +kernel
theorem d_F_postsThatAre_17 : decode b_F_postsThatAre 17 = .ok (.aaload, 1) := by decide +kernel
theorem d_F_postsThatAre_18 : decode b_F_postsThatAre 18 = .ok (.getfield 161, 3) := by decide +kernel
theorem d_F_postsThatAre_21 : decode b_F_postsThatAre 21 = .ok (.iload_n 1, 1) := by decide +kernel
theorem d_F_postsThatAre_22 : decode b_F_postsThatAre 22 = .ok (.if_icmp .ne 6, 3) := by decide +kernel
theorem d_F_postsThatAre_25 : decode b_F_postsThatAre 25 = .ok (.iinc 2 1, 3) := by decide +kernel
theorem d_F_postsThatAre_28 : decode b_F_postsThatAre 28 = .ok (.iinc 3 1, 3) := by decide +kernel
theorem d_F_postsThatAre_31 : decode b_F_postsThatAre 31 = .ok (.goto (-27), 3) := by decide +kernel
theorem d_F_postsThatAre_34 : decode b_F_postsThatAre 34 = .ok (.iload_n 2, 1) := by decide +kernel
theorem d_F_postsThatAre_35 : decode b_F_postsThatAre 35 = .ok (.ireturn, 1) := by decide +kernel
theorem d_F_letThrough_0 : decode b_F_letThrough 0 = .ok (.aload_n 0, 1) := by decide +kernel
theorem d_F_letThrough_1 : decode b_F_letThrough 1 = .ok (.getfield 20, 3) := by decide +kernel
theorem d_F_letThrough_4 : decode b_F_letThrough 4 = .ok (.iload_n 1, 1) := by decide +kernel
theorem d_F_letThrough_5 : decode b_F_letThrough 5 = .ok (.aaload, 1) := by decide +kernel
theorem d_F_letThrough_6 : decode b_F_letThrough 6 = .ok (.astore_n 2, 1) := by decide +kernel
theorem d_F_letThrough_7 : decode b_F_letThrough 7 = .ok (.aload_n 2, 1) := by decide +kernel
theorem d_F_letThrough_8 : decode b_F_letThrough 8 = .ok (.iconst 1, 1) := by decide +kernel
theorem d_F_letThrough_9 : decode b_F_letThrough 9 = .ok (.putfield 161, 3) := by decide +kernel
theorem d_F_letThrough_12 : decode b_F_letThrough 12 = .ok (.aload_n 0, 1) := by decide +kernel
theorem d_F_letThrough_13 : decode b_F_letThrough 13 = .ok (.getfield 11, 3) := by decide +kernel
theorem d_F_letThrough_16 : decode b_F_letThrough 16 = .ok (.aload_n 2, 1) := by decide +kernel
theorem d_F_letThrough_17 : decode b_F_letThrough 17 = .ok (.getfield 166, 3) := by decide +kernel
theorem d_F_letThrough_20 : decode b_F_letThrough 20 = .ok (.aaload, 1) := by decide +kernel
theorem d_F_letThrough_21 : decode b_F_letThrough 21 = .ok (.iload_n 1, 1) := by decide +kernel
theorem d_F_letThrough_22 : decode b_F_letThrough 22 = .ok (.aload_n 2, 1) := by decide +kernel
theorem d_F_letThrough_23 : decode b_F_letThrough 23 = .ok (.aload_n 0, 1) := by decide +kernel
theorem d_F_letThrough_24 : decode b_F_letThrough 24 = .ok (.getfield 73, 3) := by decide +kernel
theorem d_F_letThrough_27 : decode b_F_letThrough 27 = .ok (.aload_n 0, 1) := by decide +kernel
theorem d_F_letThrough_28 : decode b_F_letThrough 28 = .ok (.getfield 28, 3) := by decide +kernel
theorem d_F_letThrough_31 : decode b_F_letThrough 31 = .ok (.invokevirtual 244, 3) := by decide +kernel
theorem d_F_letThrough_34 : decode b_F_letThrough 34 = .ok (.return_, 1) := by decide +kernel
theorem d_F_existing_0 : decode b_F_existing 0 = .ok (.iload_n 1, 1) := by decide +kernel
theorem d_F_existing_1 : decode b_F_existing 1 = .ok (.iload_n 2, 1) := by decide +kernel
theorem d_F_existing_2 : decode b_F_existing 2 = .ok (.invokestatic 32, 3) := by decide +kernel
theorem d_F_existing_5 : decode b_F_existing 5 = .ok (.aload_n 0, 1) := by decide +kernel
theorem d_F_existing_6 : decode b_F_existing 6 = .ok (.getfield 11, 3) := by decide +kernel
theorem d_F_existing_9 : decode b_F_existing 9 = .ok (.iload_n 1, 1) := by decide +kernel
theorem d_F_existing_10 : decode b_F_existing 10 = .ok (.aaload, 1) := by decide +kernel
theorem d_F_existing_11 : decode b_F_existing 11 = .ok (.getfield 44, 3) := by decide +kernel
theorem d_F_existing_14 : decode b_F_existing 14 = .ok (.iload_n 2, 1) := by decide +kernel
theorem d_F_existing_15 : decode b_F_existing 15 = .ok (.aaload, 1) := by decide +kernel
theorem d_F_existing_16 : decode b_F_existing 16 = .ok (.astore_n 3, 1) := by decide +kernel
theorem d_F_existing_17 : decode b_F_existing 17 = .ok (.aload_n 3, 1) := by decide +kernel
theorem d_F_existing_18 : decode b_F_existing 18 = .ok (.getfield 48, 3) := by decide +kernel
theorem d_F_existing_21 : decode b_F_existing 21 = .ok (.iconst (-1), 1) := by decide +kernel
theorem d_F_existing_22 : decode b_F_existing 22 = .ok (.if_icmp .ne 13, 3) := by decide +kernel
theorem d_F_existing_25 : decode b_F_existing 25 = .ok (.new 90, 3) := by decide +kernel
theorem d_F_existing_28 : decode b_F_existing 28 = .ok (.dup, 1) := by decide +kernel
theorem d_F_existing_29 : decode b_F_existing 29 = .ok (.ldc 248, 2) := by decide +kernel
theorem d_F_existing_31 : decode b_F_existing 31 = .ok (.invokespecial 94, 3) := by decide +kernel
theorem d_F_existing_34 : decode b_F_existing 34 = .ok (.athrow, 1) := by decide +kernel
theorem d_F_existing_35 : decode b_F_existing 35 = .ok (.aload_n 3, 1) := by decide +kernel
theorem d_F_existing_36 : decode b_F_existing 36 = .ok (.areturn, 1) := by decide +kernel
theorem d_F_requirePlace_0 : decode b_F_requirePlace 0 = .ok (.iload_n 0, 1) := by decide +kernel
theorem d_F_requirePlace_1 : decode b_F_requirePlace 1 = .ok (.iconst 0, 1) := by decide +kernel
theorem d_F_requirePlace_2 : decode b_F_requirePlace 2 = .ok (.iconst 2, 1) := by decide +kernel
theorem d_F_requirePlace_3 : decode b_F_requirePlace 3 = .ok (.invokestatic 36, 3) := by decide +kernel
theorem d_F_requirePlace_6 : decode b_F_requirePlace 6 = .ok (.ifCond .eq 17, 3) := by decide +kernel
theorem d_F_requirePlace_9 : decode b_F_requirePlace 9 = .ok (.iload_n 1, 1) := by decide +kernel
theorem d_F_requirePlace_10 : decode b_F_requirePlace 10 = .ok (.iconst 0, 1) := by decide +kernel
theorem d_F_requirePlace_11 : decode b_F_requirePlace 11 = .ok (.bipush 11, 2) := by decide +kernel
theorem d_F_requirePlace_13 : decode b_F_requirePlace 13 = .ok (.invokestatic 36, 3) := by decide +kernel
theorem d_F_requirePlace_16 : decode b_F_requirePlace 16 = .ok (.ifCond .eq 7, 3) := by decide +kernel
theorem d_F_requirePlace_19 : decode b_F_requirePlace 19 = .ok (.iconst 1, 1) := by decide +kernel
theorem d_F_requirePlace_20 : decode b_F_requirePlace 20 = .ok (.goto 4, 3) := by decide +kernel
theorem d_F_requirePlace_23 : decode b_F_requirePlace 23 = .ok (.iconst 0, 1) := by decide +kernel
theorem d_F_requirePlace_24 : decode b_F_requirePlace 24 = .ok (.invokestatic 40, 3) := by decide +kernel
theorem d_F_requirePlace_27 : decode b_F_requirePlace 27 = .ok (.return_, 1) := by decide +kernel
theorem d_F_require_0 : decode b_F_require 0 = .ok (.iload_n 0, 1) := by decide +kernel
theorem d_F_require_1 : decode b_F_require 1 = .ok (.ifCond .ne 13, 3) := by decide +kernel
theorem d_F_require_4 : decode b_F_require 4 = .ok (.new 250, 3) := by decide +kernel
theorem d_F_require_7 : decode b_F_require 7 = .ok (.dup, 1) := by decide +kernel
theorem d_F_require_8 : decode b_F_require 8 = .ok (.ldc 252, 2) := by decide +kernel
theorem d_F_require_10 : decode b_F_require 10 = .ok (.invokespecial 254, 3) := by decide +kernel
theorem d_F_require_13 : decode b_F_require 13 = .ok (.athrow, 1) := by decide +kernel
theorem d_F_require_14 : decode b_F_require 14 = .ok (.return_, 1) := by decide +kernel
theorem d_F_isWithin_0 : decode b_F_isWithin 0 = .ok (.iload_n 0, 1) := by decide +kernel
theorem d_F_isWithin_1 : decode b_F_isWithin 1 = .ok (.iload_n 1, 1) := by decide +kernel
theorem d_F_isWithin_2 : decode b_F_isWithin 2 = .ok (.if_icmp .lt 12, 3) := by decide +kernel
theorem d_F_isWithin_5 : decode b_F_isWithin 5 = .ok (.iload_n 0, 1) := by decide +kernel
theorem d_F_isWithin_6 : decode b_F_isWithin 6 = .ok (.iload_n 2, 1) := by decide +kernel
theorem d_F_isWithin_7 : decode b_F_isWithin 7 = .ok (.if_icmp .gt 7, 3) := by decide +kernel
theorem d_F_isWithin_10 : decode b_F_isWithin 10 = .ok (.iconst 1, 1) := by decide +kernel
theorem d_F_isWithin_11 : decode b_F_isWithin 11 = .ok (.goto 4, 3) := by decide +kernel
theorem d_F_isWithin_14 : decode b_F_isWithin 14 = .ok (.iconst 0, 1) := by decide +kernel
theorem d_F_isWithin_15 : decode b_F_isWithin 15 = .ok (.ireturn, 1) := by decide +kernel
theorem d_L_init_0 : decode b_L_init 0 = .ok (.aload_n 0, 1) := by decide +kernel
theorem d_L_init_1 : decode b_L_init 1 = .ok (.invokespecial 3, 3) := by decide +kernel
theorem d_L_init_4 : decode b_L_init 4 = .ok (.aload_n 0, 1) := by decide +kernel
theorem d_L_init_5 : decode b_L_init 5 = .ok (.iload_n 1, 1) := by decide +kernel
theorem d_L_init_6 : decode b_L_init 6 = .ok (.putfield 9, 3) := by decide +kernel
theorem d_L_init_9 : decode b_L_init 9 = .ok (.aload_n 0, 1) := by decide +kernel
theorem d_L_init_10 : decode b_L_init 10 = .ok (.bipush 12, 2) := by decide +kernel
theorem d_L_init_12 : decode b_L_init 12 = .ok (.anewarray 15, 3) := by decide +kernel
theorem d_L_init_15 : decode b_L_init 15 = .ok (.putfield 17, 3) := by decide +kernel
theorem d_L_init_18 : decode b_L_init 18 = .ok (.iconst 0, 1) := by decide +kernel
theorem d_L_init_19 : decode b_L_init 19 = .ok (.istore_n 2, 1) := by decide +kernel
theorem d_L_init_20 : decode b_L_init 20 = .ok (.iload_n 2, 1) := by decide +kernel
theorem d_L_init_21 : decode b_L_init 21 = .ok (.bipush 12, 2) := by decide +kernel
theorem d_L_init_23 : decode b_L_init 23 = .ok (.if_icmp .ge 22, 3) := by decide +kernel
theorem d_L_init_26 : decode b_L_init 26 = .ok (.aload_n 0, 1) := by decide +kernel
theorem d_L_init_27 : decode b_L_init 27 = .ok (.getfield 17, 3) := by decide +kernel
theorem d_L_init_30 : decode b_L_init 30 = .ok (.iload_n 2, 1) := by decide +kernel
theorem d_L_init_31 : decode b_L_init 31 = .ok (.new 15, 3) := by decide +kernel
theorem d_L_init_34 : decode b_L_init 34 = .ok (.dup, 1) := by decide +kernel
theorem d_L_init_35 : decode b_L_init 35 = .ok (.invokespecial 21, 3) := by decide +kernel
theorem d_L_init_38 : decode b_L_init 38 = .ok (.aastore, 1) := by decide +kernel
theorem d_L_init_39 : decode b_L_init 39 = .ok (.iinc 2 1, 3) := by decide +kernel
theorem d_L_init_42 : decode b_L_init 42 = .ok (.goto (-22), 3) := by decide +kernel
theorem d_L_init_45 : decode b_L_init 45 = .ok (.aload_n 0, 1) := by decide +kernel
theorem d_L_init_46 : decode b_L_init 46 = .ok (.bipush 12, 2) := by decide +kernel
theorem d_L_init_48 : decode b_L_init 48 = .ok (.newarray .boolean, 2) := by decide +kernel
theorem d_L_init_50 : decode b_L_init 50 = .ok (.putfield 22, 3) := by decide +kernel
theorem d_L_init_53 : decode b_L_init 53 = .ok (.aload_n 0, 1) := by decide +kernel
theorem d_L_init_54 : decode b_L_init 54 = .ok (.bipush 10, 2) := by decide +kernel
theorem d_L_init_56 : decode b_L_init 56 = .ok (.newarray .boolean, 2) := by decide +kernel
theorem d_L_init_58 : decode b_L_init 58 = .ok (.putfield 26, 3) := by decide +kernel
theorem d_L_init_61 : decode b_L_init 61 = .ok (.aload_n 0, 1) := by decide +kernel
theorem d_L_init_62 : decode b_L_init 62 = .ok (.bipush 100, 2) := by decide +kernel
theorem d_L_init_64 : decode b_L_init 64 = .ok (.putfield 29, 3) := by decide +kernel
theorem d_L_init_67 : decode b_L_init 67 = .ok (.aload_n 0, 1) := by decide +kernel
theorem d_L_init_68 : decode b_L_init 68 = .ok (.sipush 200, 3) := by decide +kernel
theorem d_L_init_71 : decode b_L_init 71 = .ok (.putfield 32, 3) := by decide +kernel
theorem d_L_init_74 : decode b_L_init 74 = .ok (.aload_n 0, 1) := by decide +kernel
theorem d_L_init_75 : decode b_L_init 75 = .ok (.ldc2_w 35, 3) := by decide +kernel
theorem d_L_init_78 : decode b_L_init 78 = .ok (.putfield 37, 3) := by decide +kernel
theorem d_L_init_81 : decode b_L_init 81 = .ok (.return_, 1) := by decide +kernel
theorem d_L_changeOpen_0 : decode b_L_changeOpen 0 = .ok (.aload_n 0, 1) := by decide +kernel
theorem d_L_changeOpen_1 : decode b_L_changeOpen 1 = .ok (.getfield 41, 3) := by decide +kernel
theorem d_L_changeOpen_4 : decode b_L_changeOpen 4 = .ok (.ifCond .eq 7, 3) := by decide +kernel
theorem d_L_changeOpen_7 : decode b_L_changeOpen 7 = .ok (.dconst 1, 1) := by decide +kernel
theorem d_L_changeOpen_8 : decode b_L_changeOpen 8 = .ok (.goto 4, 3) := by decide +kernel
theorem d_L_changeOpen_11 : decode b_L_changeOpen 11 = .ok (.dconst 0, 1) := by decide +kernel
theorem d_L_changeOpen_12 : decode b_L_changeOpen 12 = .ok (.dstore_n 2, 1) := by decide +kernel
theorem d_L_changeOpen_13 : decode b_L_changeOpen 13 = .ok (.aload_n 0, 1) := by decide +kernel
theorem d_L_changeOpen_14 : decode b_L_changeOpen 14 = .ok (.iload_n 1, 1) := by decide +kernel
theorem d_L_changeOpen_15 : decode b_L_changeOpen 15 = .ok (.putfield 41, 3) := by decide +kernel
theorem d_L_changeOpen_18 : decode b_L_changeOpen 18 = .ok (.dload_n 2, 1) := by decide +kernel
theorem d_L_changeOpen_19 : decode b_L_changeOpen 19 = .ok (.dreturn, 1) := by decide +kernel
theorem d_L_changeWatched_0 : decode b_L_changeWatched 0 = .ok (.aload_n 0, 1) := by decide +kernel
theorem d_L_changeWatched_1 : decode b_L_changeWatched 1 = .ok (.getfield 45, 3) := by decide +kernel
theorem d_L_changeWatched_4 : decode b_L_changeWatched 4 = .ok (.ifCond .eq 7, 3) := by decide +kernel
theorem d_L_changeWatched_7 : decode b_L_changeWatched 7 = .ok (.dconst 1, 1) := by decide +kernel
theorem d_L_changeWatched_8 : decode b_L_changeWatched 8 = .ok (.goto 4, 3) := by decide +kernel
theorem d_L_changeWatched_11 : decode b_L_changeWatched 11 = .ok (.dconst 0, 1) := by decide +kernel
theorem d_L_changeWatched_12 : decode b_L_changeWatched 12 = .ok (.dstore_n 2, 1) := by decide +kernel
theorem d_L_changeWatched_13 : decode b_L_changeWatched 13 = .ok (.aload_n 0, 1) := by decide +kernel
theorem d_L_changeWatched_14 : decode b_L_changeWatched 14 = .ok (.iload_n 1, 1) := by decide +kernel
theorem d_L_changeWatched_15 : decode b_L_changeWatched 15 = .ok (.putfield 45, 3) := by decide +kernel
theorem d_L_changeWatched_18 : decode b_L_changeWatched 18 = .ok (.dload_n 2, 1) := by decide +kernel
theorem d_L_changeWatched_19 : decode b_L_changeWatched 19 = .ok (.dreturn, 1) := by decide +kernel
theorem d_L_changeGreatest_0 : decode b_L_changeGreatest 0 = .ok (.aload_n 0, 1) := by decide +kernel
theorem d_L_changeGreatest_1 : decode b_L_changeGreatest 1 = .ok (.getfield 29, 3) := by decide +kernel
theorem d_L_changeGreatest_4 : decode b_L_changeGreatest 4 = .ok (.i2d, 1) := by decide +kernel
theorem d_L_changeGreatest_5 : decode b_L_changeGreatest 5 = .ok (.dstore_n 2, 1) := by decide +kernel
theorem d_L_changeGreatest_6 : decode b_L_changeGreatest 6 = .ok (.aload_n 0, 1) := by decide +kernel
theorem d_L_changeGreatest_7 : decode b_L_changeGreatest 7 = .ok (.iload_n 1, 1) := by decide +kernel
theorem d_L_changeGreatest_8 : decode b_L_changeGreatest 8 = .ok (.putfield 29, 3) := by decide +kernel
theorem d_L_changeGreatest_11 : decode b_L_changeGreatest 11 = .ok (.dload_n 2, 1) := by decide +kernel
theorem d_L_changeGreatest_12 : decode b_L_changeGreatest 12 = .ok (.dreturn, 1) := by decide +kernel
theorem d_L_changeFull_0 : decode b_L_changeFull 0 = .ok (.aload_n 0, 1) := by decide +kernel
theorem d_L_changeFull_1 : decode b_L_changeFull 1 = .ok (.getfield 32, 3) := by decide +kernel
theorem d_L_changeFull_4 : decode b_L_changeFull 4 = .ok (.i2d, 1) := by decide +kernel
theorem d_L_changeFull_5 : decode b_L_changeFull 5 = .ok (.dstore_n 2, 1) := by decide +kernel
theorem d_L_changeFull_6 : decode b_L_changeFull 6 = .ok (.aload_n 0, 1) := by decide +kernel
theorem d_L_changeFull_7 : decode b_L_changeFull 7 = .ok (.iload_n 1, 1) := by decide +kernel
theorem d_L_changeFull_8 : decode b_L_changeFull 8 = .ok (.putfield 32, 3) := by decide +kernel
theorem d_L_changeFull_11 : decode b_L_changeFull 11 = .ok (.dload_n 2, 1) := by decide +kernel
theorem d_L_changeFull_12 : decode b_L_changeFull 12 = .ok (.dreturn, 1) := by decide +kernel
theorem d_L_changeBest_0 : decode b_L_changeBest 0 = .ok (.aload_n 0, 1) := by decide +kernel
theorem d_L_changeBest_1 : decode b_L_changeBest 1 = .ok (.getfield 37, 3) := by decide +kernel
theorem d_L_changeBest_4 : decode b_L_changeBest 4 = .ok (.dstore_n 3, 1) := by decide +kernel
theorem d_L_changeBest_5 : decode b_L_changeBest 5 = .ok (.aload_n 0, 1) := by decide +kernel
theorem d_L_changeBest_6 : decode b_L_changeBest 6 = .ok (.dload_n 1, 1) := by decide +kernel
theorem d_L_changeBest_7 : decode b_L_changeBest 7 = .ok (.putfield 37, 3) := by decide +kernel
theorem d_L_changeBest_10 : decode b_L_changeBest 10 = .ok (.dload_n 3, 1) := by decide +kernel
theorem d_L_changeBest_11 : decode b_L_changeBest 11 = .ok (.dreturn, 1) := by decide +kernel
theorem d_L_changeBarred_0 : decode b_L_changeBarred 0 = .ok (.aload_n 0, 1) := by decide +kernel
theorem d_L_changeBarred_1 : decode b_L_changeBarred 1 = .ok (.getfield 26, 3) := by decide +kernel
theorem d_L_changeBarred_4 : decode b_L_changeBarred 4 = .ok (.iload_n 1, 1) := by decide +kernel
theorem d_L_changeBarred_5 : decode b_L_changeBarred 5 = .ok (.baload, 1) := by decide +kernel
theorem d_L_changeBarred_6 : decode b_L_changeBarred 6 = .ok (.ifCond .eq 7, 3) := by decide +kernel
theorem d_L_changeBarred_9 : decode b_L_changeBarred 9 = .ok (.dconst 1, 1) := by decide +kernel
theorem d_L_changeBarred_10 : decode b_L_changeBarred 10 = .ok (.goto 4, 3) := by decide +kernel
theorem d_L_changeBarred_13 : decode b_L_changeBarred 13 = .ok (.dconst 0, 1) := by decide +kernel
theorem d_L_changeBarred_14 : decode b_L_changeBarred 14 = .ok (.dstore_n 3, 1) := by decide +kernel
theorem d_L_changeBarred_15 : decode b_L_changeBarred 15 = .ok (.aload_n 0, 1) := by decide +kernel
theorem d_L_changeBarred_16 : decode b_L_changeBarred 16 = .ok (.getfield 26, 3) := by decide +kernel
theorem d_L_changeBarred_19 : decode b_L_changeBarred 19 = .ok (.iload_n 1, 1) := by decide +kernel
theorem d_L_changeBarred_20 : decode b_L_changeBarred 20 = .ok (.iload_n 2, 1) := by decide +kernel
theorem d_L_changeBarred_21 : decode b_L_changeBarred 21 = .ok (.bastore, 1) := by decide +kernel
theorem d_L_changeBarred_22 : decode b_L_changeBarred 22 = .ok (.dload_n 3, 1) := by decide +kernel
theorem d_L_changeBarred_23 : decode b_L_changeBarred 23 = .ok (.dreturn, 1) := by decide +kernel
theorem d_L_subscriptionCount_0 : decode b_L_subscriptionCount 0 = .ok (.iconst 0, 1) := by decide +kernel
theorem d_L_subscriptionCount_1 : decode b_L_subscriptionCount 1 = .ok (.istore_n 1, 1) := by decide +kernel
theorem d_L_subscriptionCount_2 : decode b_L_subscriptionCount 2 = .ok (.iconst 0, 1) := by decide +kernel
theorem d_L_subscriptionCount_3 : decode b_L_subscriptionCount 3 = .ok (.istore_n 2, 1) := by decide +kernel
theorem d_L_subscriptionCount_4 : decode b_L_subscriptionCount 4 = .ok (.iload_n 2, 1) := by decide +kernel
theorem d_L_subscriptionCount_5 : decode b_L_subscriptionCount 5 = .ok (.bipush 12, 2) := by decide +kernel
theorem d_L_subscriptionCount_7 : decode b_L_subscriptionCount 7 = .ok (.if_icmp .ge 25, 3) := by decide +kernel
theorem d_L_subscriptionCount_10 : decode b_L_subscriptionCount 10 = .ok (.aload_n 0, 1) := by decide +kernel
theorem d_L_subscriptionCount_11 : decode b_L_subscriptionCount 11 = .ok (.getfield 17, 3) := by decide +kernel
theorem d_L_subscriptionCount_14 : decode b_L_subscriptionCount 14 = .ok (.iload_n 2, 1) := by decide +kernel
theorem d_L_subscriptionCount_15 : decode b_L_subscriptionCount 15 = .ok (.aaload, 1) := by decide +kernel
theorem d_L_subscriptionCount_16 : decode b_L_subscriptionCount 16 = .ok (.getfield 48, 3) := by decide +kernel
theorem d_L_subscriptionCount_19 : decode b_L_subscriptionCount 19 = .ok (.iconst (-1), 1) := by decide +kernel
theorem d_L_subscriptionCount_20 : decode b_L_subscriptionCount 20 = .ok (.if_icmp .eq 6, 3) := by decide +kernel
theorem d_L_subscriptionCount_23 : decode b_L_subscriptionCount 23 = .ok (.iinc 1 1, 3) := by decide +kernel
theorem d_L_subscriptionCount_26 : decode b_L_subscriptionCount 26 = .ok (.iinc 2 1, 3) := by decide +kernel
theorem d_L_subscriptionCount_29 : decode b_L_subscriptionCount 29 = .ok (.goto (-25), 3) := by decide +kernel
theorem d_L_subscriptionCount_32 : decode b_L_subscriptionCount 32 = .ok (.iload_n 1, 1) := by decide +kernel
theorem d_L_subscriptionCount_33 : decode b_L_subscriptionCount 33 = .ok (.ireturn, 1) := by decide +kernel
theorem d_L_liveCount_0 : decode b_L_liveCount 0 = .ok (.iconst 0, 1) := by decide +kernel
theorem d_L_liveCount_1 : decode b_L_liveCount 1 = .ok (.istore_n 1, 1) := by decide +kernel
theorem d_L_liveCount_2 : decode b_L_liveCount 2 = .ok (.iconst 0, 1) := by decide +kernel
theorem d_L_liveCount_3 : decode b_L_liveCount 3 = .ok (.istore_n 2, 1) := by decide +kernel
theorem d_L_liveCount_4 : decode b_L_liveCount 4 = .ok (.iload_n 2, 1) := by decide +kernel
theorem d_L_liveCount_5 : decode b_L_liveCount 5 = .ok (.bipush 12, 2) := by decide +kernel
theorem d_L_liveCount_7 : decode b_L_liveCount 7 = .ok (.if_icmp .ge 25, 3) := by decide +kernel
theorem d_L_liveCount_10 : decode b_L_liveCount 10 = .ok (.aload_n 0, 1) := by decide +kernel
theorem d_L_liveCount_11 : decode b_L_liveCount 11 = .ok (.getfield 17, 3) := by decide +kernel
theorem d_L_liveCount_14 : decode b_L_liveCount 14 = .ok (.iload_n 2, 1) := by decide +kernel
theorem d_L_liveCount_15 : decode b_L_liveCount 15 = .ok (.aaload, 1) := by decide +kernel
theorem d_L_liveCount_16 : decode b_L_liveCount 16 = .ok (.getfield 48, 3) := by decide +kernel
theorem d_L_liveCount_19 : decode b_L_liveCount 19 = .ok (.iconst 1, 1) := by decide +kernel
theorem d_L_liveCount_20 : decode b_L_liveCount 20 = .ok (.if_icmp .ne 6, 3) := by decide +kernel
theorem d_L_liveCount_23 : decode b_L_liveCount 23 = .ok (.iinc 1 1, 3) := by decide +kernel
theorem d_L_liveCount_26 : decode b_L_liveCount 26 = .ok (.iinc 2 1, 3) := by decide +kernel
theorem d_L_liveCount_29 : decode b_L_liveCount 29 = .ok (.goto (-25), 3) := by decide +kernel
theorem d_L_liveCount_32 : decode b_L_liveCount 32 = .ok (.iload_n 1, 1) := by decide +kernel
theorem d_L_liveCount_33 : decode b_L_liveCount 33 = .ok (.ireturn, 1) := by decide +kernel
theorem d_L_refusesSender_0 : decode b_L_refusesSender 0 = .ok (.aload_n 0, 1) := by decide +kernel
theorem d_L_refusesSender_1 : decode b_L_refusesSender 1 = .ok (.getfield 22, 3) := by decide +kernel
theorem d_L_refusesSender_4 : decode b_L_refusesSender 4 = .ok (.iload_n 1, 1) := by decide +kernel
theorem d_L_refusesSender_5 : decode b_L_refusesSender 5 = .ok (.baload, 1) := by decide +kernel
theorem d_L_refusesSender_6 : decode b_L_refusesSender 6 = .ok (.ifCond .ne 23, 3) := by decide +kernel
theorem d_L_refusesSender_9 : decode b_L_refusesSender 9 = .ok (.aload_n 0, 1) := by decide +kernel
theorem d_L_refusesSender_10 : decode b_L_refusesSender 10 = .ok (.getfield 17, 3) := by decide +kernel
theorem d_L_refusesSender_13 : decode b_L_refusesSender 13 = .ok (.iload_n 1, 1) := by decide +kernel
theorem d_L_refusesSender_14 : decode b_L_refusesSender 14 = .ok (.aaload, 1) := by decide +kernel
theorem d_L_refusesSender_15 : decode b_L_refusesSender 15 = .ok (.getfield 48, 3) := by decide +kernel
theorem d_L_refusesSender_18 : decode b_L_refusesSender 18 = .ok (.iconst 1, 1) := by decide +kernel
theorem d_L_refusesSender_19 : decode b_L_refusesSender 19 = .ok (.if_icmp .eq 14, 3) := by decide +kernel
theorem d_L_refusesSender_22 : decode b_L_refusesSender 22 = .ok (.aload_n 0, 1) := by decide +kernel
theorem d_L_refusesSender_23 : decode b_L_refusesSender 23 = .ok (.getfield 41, 3) := by decide +kernel
theorem d_L_refusesSender_26 : decode b_L_refusesSender 26 = .ok (.ifCond .ne 7, 3) := by decide +kernel
theorem d_L_refusesSender_29 : decode b_L_refusesSender 29 = .ok (.iconst 1, 1) := by decide +kernel
theorem d_L_refusesSender_30 : decode b_L_refusesSender 30 = .ok (.goto 4, 3) := by decide +kernel
theorem d_L_refusesSender_33 : decode b_L_refusesSender 33 = .ok (.iconst 0, 1) := by decide +kernel
theorem d_L_refusesSender_34 : decode b_L_refusesSender 34 = .ok (.ireturn, 1) := by decide +kernel
theorem d_L_holdsBack_0 : decode b_L_holdsBack 0 = .ok (.aload_n 0, 1) := by decide +kernel
theorem d_L_holdsBack_1 : decode b_L_holdsBack 1 = .ok (.getfield 17, 3) := by decide +kernel
theorem d_L_holdsBack_4 : decode b_L_holdsBack 4 = .ok (.iload_n 1, 1) := by decide +kernel
theorem d_L_holdsBack_5 : decode b_L_holdsBack 5 = .ok (.aaload, 1) := by decide +kernel
theorem d_L_holdsBack_6 : decode b_L_holdsBack 6 = .ok (.getfield 51, 3) := by decide +kernel
theorem d_L_holdsBack_9 : decode b_L_holdsBack 9 = .ok (.ifCond .eq 5, 3) := by decide +kernel
theorem d_L_holdsBack_12 : decode b_L_holdsBack 12 = .ok (.iconst 0, 1) := by decide +kernel
theorem d_L_holdsBack_13 : decode b_L_holdsBack 13 = .ok (.ireturn, 1) := by decide +kernel
theorem d_L_holdsBack_14 : decode b_L_holdsBack 14 = .ok (.iload_n 2, 1) := by decide +kernel
theorem d_L_holdsBack_15 : decode b_L_holdsBack 15 = .ok (.aload_n 0, 1) := by decide +kernel
theorem d_L_holdsBack_16 : decode b_L_holdsBack 16 = .ok (.getfield 29, 3) := by decide +kernel
theorem d_L_holdsBack_19 : decode b_L_holdsBack 19 = .ok (.if_icmp .gt 19, 3) := by decide +kernel
theorem d_L_holdsBack_22 : decode b_L_holdsBack 22 = .ok (.aload_n 0, 1) := by decide +kernel
theorem d_L_holdsBack_23 : decode b_L_holdsBack 23 = .ok (.getfield 26, 3) := by decide +kernel
theorem d_L_holdsBack_26 : decode b_L_holdsBack 26 = .ok (.iload_n 3, 1) := by decide +kernel
theorem d_L_holdsBack_27 : decode b_L_holdsBack 27 = .ok (.baload, 1) := by decide +kernel
theorem d_L_holdsBack_28 : decode b_L_holdsBack 28 = .ok (.ifCond .ne 10, 3) := by decide +kernel
theorem d_L_holdsBack_31 : decode b_L_holdsBack 31 = .ok (.aload_n 0, 1) := by decide +kernel
theorem d_L_holdsBack_32 : decode b_L_holdsBack 32 = .ok (.getfield 45, 3) := by decide +kernel
theorem d_L_holdsBack_35 : decode b_L_holdsBack 35 = .ok (.ifCond .eq 7, 3) := by decide +kernel
theorem d_L_holdsBack_38 : decode b_L_holdsBack 38 = .ok (.iconst 1, 1) := by decide +kernel
theorem d_L_holdsBack_39 : decode b_L_holdsBack 39 = .ok (.goto 4, 3) := by decide +kernel
theorem d_L_holdsBack_42 : decode b_L_holdsBack 42 = .ok (.iconst 0, 1) := by decide +kernel
theorem d_L_holdsBack_43 : decode b_L_holdsBack 43 = .ok (.ireturn, 1) := by decide +kernel
theorem d_L_tellModerators_0 : decode b_L_tellModerators 0 = .ok (.iconst 0, 1) := by decide +kernel
theorem d_L_tellModerators_1 : decode b_L_tellModerators 1 = .ok (.istore_n 3, 1) := by decide +kernel
theorem d_L_tellModerators_2 : decode b_L_tellModerators 2 = .ok (.iload_n 3, 1) := by decide +kernel
theorem d_L_tellModerators_3 : decode b_L_tellModerators 3 = .ok (.bipush 12, 2) := by decide +kernel
theorem d_L_tellModerators_5 : decode b_L_tellModerators 5 = .ok (.if_icmp .ge 32, 3) := by decide +kernel
theorem d_L_tellModerators_8 : decode b_L_tellModerators 8 = .ok (.aload_n 0, 1) := by decide +kernel
theorem d_L_tellModerators_9 : decode b_L_tellModerators 9 = .ok (.getfield 17, 3) := by decide +kernel
theorem d_L_tellModerators_12 : decode b_L_tellModerators 12 = .ok (.iload_n 3, 1) := by decide +kernel
theorem d_L_tellModerators_13 : decode b_L_tellModerators 13 = .ok (.aaload, 1) := by decide +kernel
theorem d_L_tellModerators_14 : decode b_L_tellModerators 14 = .ok (.getfield 51, 3) := by decide +kernel
theorem d_L_tellModerators_17 : decode b_L_tellModerators 17 = .ok (.ifCond .eq 14, 3) := by decide +kernel
theorem d_L_tellModerators_20 : decode b_L_tellModerators 20 = .ok (.aload_n 2, 1) := by decide +kernel
theorem d_L_tellModerators_21 : decode b_L_tellModerators 21 = .ok (.iload_n 3, 1) := by decide +kernel
theorem d_L_tellModerators_22 : decode b_L_tellModerators 22 = .ok (.aload_n 0, 1) := by decide +kernel
theorem d_L_tellModerators_23 : decode b_L_tellModerators 23 = .ok (.getfield 9, 3) := by decide +kernel
theorem d_L_tellModerators_26 : decode b_L_tellModerators 26 = .ok (.iconst 3, 1) := by decide +kernel
theorem d_L_tellModerators_27 : decode b_L_tellModerators 27 = .ok (.iload_n 1, 1) := by decide +kernel
theorem d_L_tellModerators_28 : decode b_L_tellModerators 28 = .ok (.invokevirtual 54, 3) := by decide +kernel
theorem d_L_tellModerators_31 : decode b_L_tellModerators 31 = .ok (.iinc 3 1, 3) := by decide +kernel
theorem d_L_tellModerators_34 : decode b_L_tellModerators 34 = .ok (.goto (-32), 3) := by decide +kernel
theorem d_L_tellModerators_37 : decode b_L_tellModerators 37 = .ok (.return_, 1) := by decide +kernel
theorem d_L_deliver_0 : decode b_L_deliver 0 = .ok (.iconst 0, 1) := by decide +kernel
theorem d_L_deliver_1 : decode b_L_deliver 1 = .ok (.istore 5, 2) := by decide +kernel
theorem d_L_deliver_3 : decode b_L_deliver 3 = .ok (.iconst 0, 1) := by decide +kernel
theorem d_L_deliver_4 : decode b_L_deliver 4 = .ok (.istore 6, 2) := by decide +kernel
theorem d_L_deliver_6 : decode b_L_deliver 6 = .ok (.iload 6, 2) := by decide +kernel
theorem d_L_deliver_8 : decode b_L_deliver 8 = .ok (.bipush 12, 2) := by decide +kernel
theorem d_L_deliver_10 : decode b_L_deliver 10 = .ok (.if_icmp .ge 71, 3) := by decide +kernel
theorem d_L_deliver_13 : decode b_L_deliver 13 = .ok (.aload_n 0, 1) := by decide +kernel
theorem d_L_deliver_14 : decode b_L_deliver 14 = .ok (.getfield 17, 3) := by decide +kernel
theorem d_L_deliver_17 : decode b_L_deliver 17 = .ok (.iload 6, 2) := by decide +kernel
theorem d_L_deliver_19 : decode b_L_deliver 19 = .ok (.aaload, 1) := by decide +kernel
theorem d_L_deliver_20 : decode b_L_deliver 20 = .ok (.iconst 0, 1) := by decide +kernel
theorem d_L_deliver_21 : decode b_L_deliver 21 = .ok (.invokevirtual 60, 3) := by decide +kernel
theorem d_L_deliver_24 : decode b_L_deliver 24 = .ok (.ifCond .eq 25, 3) := by decide +kernel
theorem d_L_deliver_27 : decode b_L_deliver 27 = .ok (.iload 6, 2) := by decide +kernel
theorem d_L_deliver_29 : decode b_L_deliver 29 = .ok (.aload_n 2, 1) := by decide +kernel
theorem d_L_deliver_30 : decode b_L_deliver 30 = .ok (.getfield 64, 3) := by decide +kernel
theorem d_L_deliver_33 : decode b_L_deliver 33 = .ok (.if_icmp .eq 16, 3) := by decide +kernel
theorem d_L_deliver_36 : decode b_L_deliver 36 = .ok (.aload 4, 2) := by decide +kernel
theorem d_L_deliver_38 : decode b_L_deliver 38 = .ok (.iload 6, 2) := by decide +kernel
theorem d_L_deliver_40 : decode b_L_deliver 40 = .ok (.aload_n 0, 1) := by decide +kernel
theorem d_L_deliver_41 : decode b_L_deliver 41 = .ok (.getfield 9, 3) := by decide +kernel
theorem d_L_deliver_44 : decode b_L_deliver 44 = .ok (.iconst 0, 1) := by decide +kernel
theorem d_L_deliver_45 : decode b_L_deliver 45 = .ok (.iload_n 1, 1) := by decide +kernel
theorem d_L_deliver_46 : decode b_L_deliver 46 = .ok (.invokevirtual 54, 3) := by decide +kernel
theorem d_L_deliver_49 : decode b_L_deliver 49 = .ok (.iload 5, 2) := by decide +kernel
theorem d_L_deliver_51 : decode b_L_deliver 51 = .ok (.ifCond .ne 17, 3) := by decide +kernel
theorem d_L_deliver_54 : decode b_L_deliver 54 = .ok (.aload_n 0, 1) := by decide +kernel
theorem d_L_deliver_55 : decode b_L_deliver 55 = .ok (.getfield 17, 3) := by decide +kernel
theorem d_L_deliver_58 : decode b_L_deliver 58 = .ok (.iload 6, 2) := by decide +kernel
theorem d_L_deliver_60 : decode b_L_deliver 60 = .ok (.aaload, 1) := by decide +kernel
theorem d_L_deliver_61 : decode b_L_deliver 61 = .ok (.iconst 1, 1) := by decide +kernel
theorem d_L_deliver_62 : decode b_L_deliver 62 = .ok (.invokevirtual 60, 3) := by decide +kernel
theorem d_L_deliver_65 : decode b_L_deliver 65 = .ok (.ifCond .eq 7, 3) := by decide +kernel
theorem d_L_deliver_68 : decode b_L_deliver 68 = .ok (.iconst 1, 1) := by decide +kernel
theorem d_L_deliver_69 : decode b_L_deliver 69 = .ok (.goto 4, 3) := by decide +kernel
theorem d_L_deliver_72 : decode b_L_deliver 72 = .ok (.iconst 0, 1) := by decide +kernel
theorem d_L_deliver_73 : decode b_L_deliver 73 = .ok (.istore 5, 2) := by decide +kernel
theorem d_L_deliver_75 : decode b_L_deliver 75 = .ok (.iinc 6 1, 3) := by decide +kernel
theorem d_L_deliver_78 : decode b_L_deliver 78 = .ok (.goto (-72), 3) := by decide +kernel
theorem d_L_deliver_81 : decode b_L_deliver 81 = .ok (.iload 5, 2) := by decide +kernel
theorem d_L_deliver_83 : decode b_L_deliver 83 = .ok (.ifCond .eq 12, 3) := by decide +kernel
theorem d_L_deliver_86 : decode b_L_deliver 86 = .ok (.aload_n 0, 1) := by decide +kernel
theorem d_L_deliver_87 : decode b_L_deliver 87 = .ok (.aload_n 2, 1) := by decide +kernel
theorem d_L_deliver_88 : decode b_L_deliver 88 = .ok (.getfield 69, 3) := by decide +kernel
theorem d_L_deliver_91 : decode b_L_deliver 91 = .ok (.iload_n 3, 1) := by decide +kernel
theorem d_L_deliver_92 : decode b_L_deliver 92 = .ok (.invokevirtual 72, 3) := by decide +kernel
theorem d_L_deliver_95 : decode b_L_deliver 95 = .ok (.aload_n 0, 1) := by decide +kernel
theorem d_L_deliver_96 : decode b_L_deliver 96 = .ok (.getfield 76, 3) := by decide +kernel
theorem d_L_deliver_99 : decode b_L_deliver 99 = .ok (.aload_n 0, 1) := by decide +kernel
theorem d_L_deliver_100 : decode b_L_deliver 100 = .ok (.getfield 32, 3) := by decide +kernel
theorem d_L_deliver_103 : decode b_L_deliver 103 = .ok (.if_icmp .lt 9, 3) := by decide +kernel
theorem d_L_deliver_106 : decode b_L_deliver 106 = .ok (.aload_n 0, 1) := by decide +kernel
theorem d_L_deliver_107 : decode b_L_deliver 107 = .ok (.aload 4, 2) := by decide +kernel
theorem d_L_deliver_109 : decode b_L_deliver 109 = .ok (.invokevirtual 79, 3) := by decide +kernel
theorem d_L_deliver_112 : decode b_L_deliver 112 = .ok (.return_, 1) := by decide +kernel
theorem d_L_addToBundle_0 : decode b_L_addToBundle 0 = .ok (.aload_n 0, 1) := by decide +kernel
theorem d_L_addToBundle_1 : decode b_L_addToBundle 1 = .ok (.getfield 83, 3) := by decide +kernel
theorem d_L_addToBundle_4 : decode b_L_addToBundle 4 = .ok (.ifCond .ne 8, 3) := by decide +kernel
theorem d_L_addToBundle_7 : decode b_L_addToBundle 7 = .ok (.aload_n 0, 1) := by decide +kernel
theorem d_L_addToBundle_8 : decode b_L_addToBundle 8 = .ok (.iload_n 2, 1) := by decide +kernel
theorem d_L_addToBundle_9 : decode b_L_addToBundle 9 = .ok (.putfield 86, 3) := by decide +kernel
theorem d_L_addToBundle_12 : decode b_L_addToBundle 12 = .ok (.aload_n 0, 1) := by decide +kernel
theorem d_L_addToBundle_13 : decode b_L_addToBundle 13 = .ok (.dup, 1) := by decide +kernel
theorem d_L_addToBundle_14 : decode b_L_addToBundle 14 = .ok (.getfield 83, 3) := by decide +kernel
theorem d_L_addToBundle_17 : decode b_L_addToBundle 17 = .ok (.iconst 1, 1) := by decide +kernel
theorem d_L_addToBundle_18 : decode b_L_addToBundle 18 = .ok (.iadd, 1) := by decide +kernel
theorem d_L_addToBundle_19 : decode b_L_addToBundle 19 = .ok (.putfield 83, 3) := by decide +kernel
theorem d_L_addToBundle_22 : decode b_L_addToBundle 22 = .ok (.aload_n 0, 1) := by decide +kernel
theorem d_L_addToBundle_23 : decode b_L_addToBundle 23 = .ok (.dup, 1) := by decide +kernel
theorem d_L_addToBundle_24 : decode b_L_addToBundle 24 = .ok (.getfield 76, 3) := by decide +kernel
theorem d_L_addToBundle_27 : decode b_L_addToBundle 27 = .ok (.iload_n 1, 1) := by decide +kernel
theorem d_L_addToBundle_28 : decode b_L_addToBundle 28 = .ok (.iadd, 1) := by decide +kernel
theorem d_L_addToBundle_29 : decode b_L_addToBundle 29 = .ok (.putfield 76, 3) := by decide +kernel
theorem d_L_addToBundle_32 : decode b_L_addToBundle 32 = .ok (.return_, 1) := by decide +kernel
theorem d_L_sendBundle_0 : decode b_L_sendBundle 0 = .ok (.iconst 0, 1) := by decide +kernel
theorem d_L_sendBundle_1 : decode b_L_sendBundle 1 = .ok (.istore_n 2, 1) := by decide +kernel
theorem d_L_sendBundle_2 : decode b_L_sendBundle 2 = .ok (.iload_n 2, 1) := by decide +kernel
theorem d_L_sendBundle_3 : decode b_L_sendBundle 3 = .ok (.bipush 12, 2) := by decide +kernel
theorem d_L_sendBundle_5 : decode b_L_sendBundle 5 = .ok (.if_icmp .ge 36, 3) := by decide +kernel
theorem d_L_sendBundle_8 : decode b_L_sendBundle 8 = .ok (.aload_n 0, 1) := by decide +kernel
theorem d_L_sendBundle_9 : decode b_L_sendBundle 9 = .ok (.getfield 17, 3) := by decide +kernel
theorem d_L_sendBundle_12 : decode b_L_sendBundle 12 = .ok (.iload_n 2, 1) := by decide +kernel
theorem d_L_sendBundle_13 : decode b_L_sendBundle 13 = .ok (.aaload, 1) := by decide +kernel
theorem d_L_sendBundle_14 : decode b_L_sendBundle 14 = .ok (.iconst 1, 1) := by decide +kernel
theorem d_L_sendBundle_15 : decode b_L_sendBundle 15 = .ok (.invokevirtual 60, 3) := by decide +kernel
theorem d_L_sendBundle_18 : decode b_L_sendBundle 18 = .ok (.ifCond .eq 17, 3) := by decide +kernel
theorem d_L_sendBundle_21 : decode b_L_sendBundle 21 = .ok (.aload_n 1, 1) := by decide +kernel
theorem d_L_sendBundle_22 : decode b_L_sendBundle 22 = .ok (.iload_n 2, 1) := by decide +kernel
theorem d_L_sendBundle_23 : decode b_L_sendBundle 23 = .ok (.aload_n 0, 1) := by decide +kernel
theorem d_L_sendBundle_24 : decode b_L_sendBundle 24 = .ok (.getfield 9, 3) := by decide +kernel
theorem d_L_sendBundle_27 : decode b_L_sendBundle 27 = .ok (.iconst 1, 1) := by decide +kernel
theorem d_L_sendBundle_28 : decode b_L_sendBundle 28 = .ok (.aload_n 0, 1) := by decide +kernel
theorem d_L_sendBundle_29 : decode b_L_sendBundle 29 = .ok (.getfield 83, 3) := by decide +kernel
theorem d_L_sendBundle_32 : decode b_L_sendBundle 32 = .ok (.invokevirtual 54, 3) := by decide +kernel
theorem d_L_sendBundle_35 : decode b_L_sendBundle 35 = .ok (.iinc 2 1, 3) := by decide +kernel
theorem d_L_sendBundle_38 : decode b_L_sendBundle 38 = .ok (.goto (-36), 3) := by decide +kernel
theorem d_L_sendBundle_41 : decode b_L_sendBundle 41 = .ok (.aload_n 0, 1) := by decide +kernel
theorem d_L_sendBundle_42 : decode b_L_sendBundle 42 = .ok (.iconst 0, 1) := by decide +kernel
theorem d_L_sendBundle_43 : decode b_L_sendBundle 43 = .ok (.putfield 83, 3) := by decide +kernel
theorem d_L_sendBundle_46 : decode b_L_sendBundle 46 = .ok (.aload_n 0, 1) := by decide +kernel
theorem d_L_sendBundle_47 : decode b_L_sendBundle 47 = .ok (.iconst 0, 1) := by decide +kernel
theorem d_L_sendBundle_48 : decode b_L_sendBundle 48 = .ok (.putfield 76, 3) := by decide +kernel
theorem d_L_sendBundle_51 : decode b_L_sendBundle 51 = .ok (.return_, 1) := by decide +kernel
theorem d_L_beginDay_0 : decode b_L_beginDay 0 = .ok (.iconst 0, 1) := by decide +kernel
theorem d_L_beginDay_1 : decode b_L_beginDay 1 = .ok (.istore_n 3, 1) := by decide +kernel
theorem d_L_beginDay_2 : decode b_L_beginDay 2 = .ok (.iload_n 3, 1) := by decide +kernel
theorem d_L_beginDay_3 : decode b_L_beginDay 3 = .ok (.bipush 12, 2) := by decide +kernel
theorem d_L_beginDay_5 : decode b_L_beginDay 5 = .ok (.if_icmp .ge 16, 3) := by decide +kernel
theorem d_L_beginDay_8 : decode b_L_beginDay 8 = .ok (.aload_n 0, 1) := by decide +kernel
theorem d_L_beginDay_9 : decode b_L_beginDay 9 = .ok (.iload_n 3, 1) := by decide +kernel
theorem d_L_beginDay_10 : decode b_L_beginDay 10 = .ok (.iload_n 1, 1) := by decide +kernel
theorem d_L_beginDay_11 : decode b_L_beginDay 11 = .ok (.aload_n 2, 1) := by decide +kernel
theorem d_L_beginDay_12 : decode b_L_beginDay 12 = .ok (.invokevirtual 89, 3) := by decide +kernel
theorem d_L_beginDay_15 : decode b_L_beginDay 15 = .ok (.iinc 3 1, 3) := by decide +kernel
theorem d_L_beginDay_18 : decode b_L_beginDay 18 = .ok (.goto (-16), 3) := by decide +kernel
theorem d_L_beginDay_21 : decode b_L_beginDay 21 = .ok (.aload_n 0, 1) := by decide +kernel
theorem d_L_beginDay_22 : decode b_L_beginDay 22 = .ok (.getfield 83, 3) := by decide +kernel
theorem d_L_beginDay_25 : decode b_L_beginDay 25 = .ok (.ifCond .le 18, 3) := by decide +kernel
theorem d_L_beginDay_28 : decode b_L_beginDay 28 = .ok (.iload_n 1, 1) := by decide +kernel
theorem d_L_beginDay_29 : decode b_L_beginDay 29 = .ok (.aload_n 0, 1) := by decide +kernel
theorem d_L_beginDay_30 : decode b_L_beginDay 30 = .ok (.getfield 86, 3) := by decide +kernel
theorem d_L_beginDay_33 : decode b_L_beginDay 33 = .ok (.isub, 1) := by decide +kernel
theorem d_L_beginDay_34 : decode b_L_beginDay 34 = .ok (.iconst 2, 1) := by decide +kernel
theorem d_L_beginDay_35 : decode b_L_beginDay 35 = .ok (.if_icmp .le 8, 3) := by decide +kernel
theorem d_L_beginDay_38 : decode b_L_beginDay 38 = .ok (.aload_n 0, 1) := by decide +kernel
theorem d_L_beginDay_39 : decode b_L_beginDay 39 = .ok (.aload_n 2, 1) := by decide +kernel
theorem d_L_beginDay_40 : decode b_L_beginDay 40 = .ok (.invokevirtual 79, 3) := by decide +kernel
theorem d_L_beginDay_43 : decode b_L_beginDay 43 = .ok (.return_, 1) := by decide +kernel
theorem d_L_beginDayOf_0 : decode b_L_beginDayOf 0 = .ok (.aload_n 0, 1) := by decide +kernel
theorem d_L_beginDayOf_1 : decode b_L_beginDayOf 1 = .ok (.getfield 17, 3) := by decide +kernel
theorem d_L_beginDayOf_4 : decode b_L_beginDayOf 4 = .ok (.iload_n 1, 1) := by decide +kernel
theorem d_L_beginDayOf_5 : decode b_L_beginDayOf 5 = .ok (.aaload, 1) := by decide +kernel
theorem d_L_beginDayOf_6 : decode b_L_beginDayOf 6 = .ok (.astore 4, 2) := by decide +kernel
theorem d_L_beginDayOf_8 : decode b_L_beginDayOf 8 = .ok (.iload_n 2, 1) := by decide +kernel
theorem d_L_beginDayOf_9 : decode b_L_beginDayOf 9 = .ok (.aload 4, 2) := by decide +kernel
theorem d_L_beginDayOf_11 : decode b_L_beginDayOf 11 = .ok (.getfield 93, 3) := by decide +kernel
theorem d_L_beginDayOf_14 : decode b_L_beginDayOf 14 = .ok (.isub, 1) := by decide +kernel
theorem d_L_beginDayOf_15 : decode b_L_beginDayOf 15 = .ok (.istore 5, 2) := by decide +kernel
theorem d_L_beginDayOf_17 : decode b_L_beginDayOf 17 = .ok (.aload 4, 2) := by decide +kernel
theorem d_L_beginDayOf_19 : decode b_L_beginDayOf 19 = .ok (.getfield 48, 3) := by decide +kernel
theorem d_L_beginDayOf_22 : decode b_L_beginDayOf 22 = .ok (.iconst 1, 1) := by decide +kernel
theorem d_L_beginDayOf_23 : decode b_L_beginDayOf 23 = .ok (.if_icmp .ne 12, 3) := by decide +kernel
theorem d_L_beginDayOf_26 : decode b_L_beginDayOf 26 = .ok (.aload 4, 2) := by decide +kernel
theorem d_L_beginDayOf_28 : decode b_L_beginDayOf 28 = .ok (.iload_n 2, 1) := by decide +kernel
theorem d_L_beginDayOf_29 : decode b_L_beginDayOf 29 = .ok (.invokevirtual 96, 3) := by decide +kernel
theorem d_L_beginDayOf_32 : decode b_L_beginDayOf 32 = .ok (.goto 47, 3) := by decide +kernel
theorem d_L_beginDayOf_35 : decode b_L_beginDayOf 35 = .ok (.aload 4, 2) := by decide +kernel
theorem d_L_beginDayOf_37 : decode b_L_beginDayOf 37 = .ok (.getfield 48, 3) := by decide +kernel
theorem d_L_beginDayOf_40 : decode b_L_beginDayOf 40 = .ok (.iconst 2, 1) := by decide +kernel
theorem d_L_beginDayOf_41 : decode b_L_beginDayOf 41 = .ok (.if_icmp .ne 19, 3) := by decide +kernel
theorem d_L_beginDayOf_44 : decode b_L_beginDayOf 44 = .ok (.iload 5, 2) := by decide +kernel
theorem d_L_beginDayOf_46 : decode b_L_beginDayOf 46 = .ok (.iconst 3, 1) := by decide +kernel
theorem d_L_beginDayOf_47 : decode b_L_beginDayOf 47 = .ok (.irem, 1) := by decide +kernel
theorem d_L_beginDayOf_48 : decode b_L_beginDayOf 48 = .ok (.ifCond .ne 12, 3) := by decide +kernel
theorem d_L_beginDayOf_51 : decode b_L_beginDayOf 51 = .ok (.aload_n 0, 1) := by decide +kernel
theorem d_L_beginDayOf_52 : decode b_L_beginDayOf 52 = .ok (.iload_n 1, 1) := by decide +kernel
theorem d_L_beginDayOf_53 : decode b_L_beginDayOf 53 = .ok (.aload_n 3, 1) := by decide +kernel
theorem d_L_beginDayOf_54 : decode b_L_beginDayOf 54 = .ok (.invokevirtual 100, 3) := by decide +kernel
theorem d_L_beginDayOf_57 : decode b_L_beginDayOf 57 = .ok (.goto 22, 3) := by decide +kernel
theorem d_L_beginDayOf_60 : decode b_L_beginDayOf 60 = .ok (.aload 4, 2) := by decide +kernel
theorem d_L_beginDayOf_62 : decode b_L_beginDayOf 62 = .ok (.getfield 48, 3) := by decide +kernel
theorem d_L_beginDayOf_65 : decode b_L_beginDayOf 65 = .ok (.ifCond .ne 14, 3) := by decide +kernel
theorem d_L_beginDayOf_68 : decode b_L_beginDayOf 68 = .ok (.iload 5, 2) := by decide +kernel
theorem d_L_beginDayOf_70 : decode b_L_beginDayOf 70 = .ok (.iconst 5, 1) := by decide +kernel
theorem d_L_beginDayOf_71 : decode b_L_beginDayOf 71 = .ok (.if_icmp .lt 8, 3) := by decide +kernel
theorem d_L_beginDayOf_74 : decode b_L_beginDayOf 74 = .ok (.aload 4, 2) := by decide +kernel
theorem d_L_beginDayOf_76 : decode b_L_beginDayOf 76 = .ok (.invokevirtual 104, 3) := by decide +kernel
theorem d_L_beginDayOf_79 : decode b_L_beginDayOf 79 = .ok (.return_, 1) := by decide +kernel
theorem d_L_warnAgain_0 : decode b_L_warnAgain 0 = .ok (.aload_n 0, 1) := by decide +kernel
theorem d_L_warnAgain_1 : decode b_L_warnAgain 1 = .ok (.getfield 17, 3) := by decide +kernel
theorem d_L_warnAgain_4 : decode b_L_warnAgain 4 = .ok (.iload_n 1, 1) := by decide +kernel
theorem d_L_warnAgain_5 : decode b_L_warnAgain 5 = .ok (.aaload, 1) := by decide +kernel
theorem d_L_warnAgain_6 : decode b_L_warnAgain 6 = .ok (.astore_n 3, 1) := by decide +kernel
theorem d_L_warnAgain_7 : decode b_L_warnAgain 7 = .ok (.aload_n 3, 1) := by decide +kernel
theorem d_L_warnAgain_8 : decode b_L_warnAgain 8 = .ok (.getfield 107, 3) := by decide +kernel
theorem d_L_warnAgain_11 : decode b_L_warnAgain 11 = .ok (.iconst 3, 1) := by decide +kernel
theorem d_L_warnAgain_12 : decode b_L_warnAgain 12 = .ok (.if_icmp .lt 22, 3) := by decide +kernel
theorem d_L_warnAgain_15 : decode b_L_warnAgain 15 = .ok (.aload_n 3, 1) := by decide +kernel
theorem d_L_warnAgain_16 : decode b_L_warnAgain 16 = .ok (.invokevirtual 104, 3) := by decide +kernel
theorem d_L_warnAgain_19 : decode b_L_warnAgain 19 = .ok (.aload_n 2, 1) := by decide +kernel
theorem d_L_warnAgain_20 : decode b_L_warnAgain 20 = .ok (.iload_n 1, 1) := by decide +kernel
theorem d_L_warnAgain_21 : decode b_L_warnAgain 21 = .ok (.aload_n 0, 1) := by decide +kernel
theorem d_L_warnAgain_22 : decode b_L_warnAgain 22 = .ok (.getfield 9, 3) := by decide +kernel
theorem d_L_warnAgain_25 : decode b_L_warnAgain 25 = .ok (.bipush 6, 2) := by decide +kernel
theorem d_L_warnAgain_27 : decode b_L_warnAgain 27 = .ok (.iconst 0, 1) := by decide +kernel
theorem d_L_warnAgain_28 : decode b_L_warnAgain 28 = .ok (.invokevirtual 54, 3) := by decide +kernel
theorem d_L_warnAgain_31 : decode b_L_warnAgain 31 = .ok (.goto 27, 3) := by decide +kernel
theorem d_L_warnAgain_34 : decode b_L_warnAgain 34 = .ok (.aload_n 3, 1) := by decide +kernel
theorem d_L_warnAgain_35 : decode b_L_warnAgain 35 = .ok (.dup, 1) := by decide +kernel
theorem d_L_warnAgain_36 : decode b_L_warnAgain 36 = .ok (.getfield 107, 3) := by decide +kernel
theorem d_L_warnAgain_39 : decode b_L_warnAgain 39 = .ok (.iconst 1, 1) := by decide +kernel
theorem d_L_warnAgain_40 : decode b_L_warnAgain 40 = .ok (.iadd, 1) := by decide +kernel
theorem d_L_warnAgain_41 : decode b_L_warnAgain 41 = .ok (.putfield 107, 3) := by decide +kernel
theorem d_L_warnAgain_44 : decode b_L_warnAgain 44 = .ok (.aload_n 2, 1) := by decide +kernel
theorem d_L_warnAgain_45 : decode b_L_warnAgain 45 = .ok (.iload_n 1, 1) := by decide +kernel
theorem d_L_warnAgain_46 : decode b_L_warnAgain 46 = .ok (.aload_n 0, 1) := by decide +kernel
theorem d_L_warnAgain_47 : decode b_L_warnAgain 47 = .ok (.getfield 9, 3) := by decide +kernel
theorem d_L_warnAgain_50 : decode b_L_warnAgain 50 = .ok (.iconst 5, 1) := by decide +kernel
theorem d_L_warnAgain_51 : decode b_L_warnAgain 51 = .ok (.aload_n 3, 1) := by decide +kernel
theorem d_L_warnAgain_52 : decode b_L_warnAgain 52 = .ok (.getfield 107, 3) := by decide +kernel
theorem d_L_warnAgain_55 : decode b_L_warnAgain 55 = .ok (.invokevirtual 54, 3) := by decide +kernel
theorem d_L_warnAgain_58 : decode b_L_warnAgain 58 = .ok (.return_, 1) := by decide +kernel
theorem d_O_init_0 : decode b_O_init 0 = .ok (.aload_n 0, 1) := by decide +kernel
theorem d_O_init_1 : decode b_O_init 1 = .ok (.invokespecial 1, 3) := by decide +kernel
theorem d_O_init_4 : decode b_O_init 4 = .ok (.aload_n 0, 1) := by decide +kernel
theorem d_O_init_5 : decode b_O_init 5 = .ok (.bipush 60, 2) := by decide +kernel
theorem d_O_init_7 : decode b_O_init 7 = .ok (.newarray .int, 2) := by decide +kernel
theorem d_O_init_9 : decode b_O_init 9 = .ok (.putfield 9, 3) := by decide +kernel
theorem d_O_init_12 : decode b_O_init 12 = .ok (.aload_n 0, 1) := by decide +kernel
theorem d_O_init_13 : decode b_O_init 13 = .ok (.bipush 60, 2) := by decide +kernel
theorem d_O_init_15 : decode b_O_init 15 = .ok (.newarray .int, 2) := by decide +kernel
theorem d_O_init_17 : decode b_O_init 17 = .ok (.putfield 13, 3) := by decide +kernel
theorem d_O_init_20 : decode b_O_init 20 = .ok (.aload_n 0, 1) := by decide +kernel
theorem d_O_init_21 : decode b_O_init 21 = .ok (.bipush 60, 2) := by decide +kernel
theorem d_O_init_23 : decode b_O_init 23 = .ok (.newarray .int, 2) := by decide +kernel
theorem d_O_init_25 : decode b_O_init 25 = .ok (.putfield 16, 3) := by decide +kernel
theorem d_O_init_28 : decode b_O_init 28 = .ok (.aload_n 0, 1) := by decide +kernel
theorem d_O_init_29 : decode b_O_init 29 = .ok (.bipush 60, 2) := by decide +kernel
theorem d_O_init_31 : decode b_O_init 31 = .ok (.newarray .int, 2) := by decide +kernel
theorem d_O_init_33 : decode b_O_init 33 = .ok (.putfield 19, 3) := by decide +kernel
theorem d_O_init_36 : decode b_O_init 36 = .ok (.return_, 1) := by decide +kernel
theorem d_O_add_0 : decode b_O_add 0 = .ok (.aload_n 0, 1) := by decide +kernel
theorem d_O_add_1 : decode b_O_add 1 = .ok (.dup, 1) := by decide +kernel
theorem d_O_add_2 : decode b_O_add 2 = .ok (.getfield 22, 3) := by decide +kernel
theorem d_O_add_5 : decode b_O_add 5 = .ok (.iconst 1, 1) := by decide +kernel
theorem d_O_add_6 : decode b_O_add 6 = .ok (.iadd, 1) := by decide +kernel
theorem d_O_add_7 : decode b_O_add 7 = .ok (.putfield 22, 3) := by decide +kernel
theorem d_O_add_10 : decode b_O_add 10 = .ok (.aload_n 0, 1) := by decide +kernel
theorem d_O_add_11 : decode b_O_add 11 = .ok (.getfield 26, 3) := by decide +kernel
theorem d_O_add_14 : decode b_O_add 14 = .ok (.bipush 60, 2) := by decide +kernel
theorem d_O_add_16 : decode b_O_add 16 = .ok (.if_icmp .ge 54, 3) := by decide +kernel
theorem d_O_add_19 : decode b_O_add 19 = .ok (.aload_n 0, 1) := by decide +kernel
theorem d_O_add_20 : decode b_O_add 20 = .ok (.getfield 9, 3) := by decide +kernel
theorem d_O_add_23 : decode b_O_add 23 = .ok (.aload_n 0, 1) := by decide +kernel
theorem d_O_add_24 : decode b_O_add 24 = .ok (.getfield 26, 3) := by decide +kernel
theorem d_O_add_27 : decode b_O_add 27 = .ok (.iload_n 1, 1) := by decide +kernel
theorem d_O_add_28 : decode b_O_add 28 = .ok (.iastore, 1) := by decide +kernel
theorem d_O_add_29 : decode b_O_add 29 = .ok (.aload_n 0, 1) := by decide +kernel
theorem d_O_add_30 : decode b_O_add 30 = .ok (.getfield 13, 3) := by decide +kernel
theorem d_O_add_33 : decode b_O_add 33 = .ok (.aload_n 0, 1) := by decide +kernel
theorem d_O_add_34 : decode b_O_add 34 = .ok (.getfield 26, 3) := by decide +kernel
theorem d_O_add_37 : decode b_O_add 37 = .ok (.iload_n 2, 1) := by decide +kernel
theorem d_O_add_38 : decode b_O_add 38 = .ok (.iastore, 1) := by decide +kernel
theorem d_O_add_39 : decode b_O_add 39 = .ok (.aload_n 0, 1) := by decide +kernel
theorem d_O_add_40 : decode b_O_add 40 = .ok (.getfield 16, 3) := by decide +kernel
theorem d_O_add_43 : decode b_O_add 43 = .ok (.aload_n 0, 1) := by decide +kernel
theorem d_O_add_44 : decode b_O_add 44 = .ok (.getfield 26, 3) := by decide +kernel
theorem d_O_add_47 : decode b_O_add 47 = .ok (.iload_n 3, 1) := by decide +kernel
theorem d_O_add_48 : decode b_O_add 48 = .ok (.iastore, 1) := by decide +kernel
theorem d_O_add_49 : decode b_O_add 49 = .ok (.aload_n 0, 1) := by decide +kernel
theorem d_O_add_50 : decode b_O_add 50 = .ok (.getfield 19, 3) := by decide +kernel
theorem d_O_add_53 : decode b_O_add 53 = .ok (.aload_n 0, 1) := by decide +kernel
theorem d_O_add_54 : decode b_O_add 54 = .ok (.getfield 26, 3) := by decide +kernel
theorem d_O_add_57 : decode b_O_add 57 = .ok (.iload 4, 2) := by decide +kernel
theorem d_O_add_59 : decode b_O_add 59 = .ok (.iastore, 1) := by decide +kernel
theorem d_O_add_60 : decode b_O_add 60 = .ok (.aload_n 0, 1) := by decide +kernel
theorem d_O_add_61 : decode b_O_add 61 = .ok (.dup, 1) := by decide +kernel
theorem d_O_add_62 : decode b_O_add 62 = .ok (.getfield 26, 3) := by decide +kernel
theorem d_O_add_65 : decode b_O_add 65 = .ok (.iconst 1, 1) := by decide +kernel
theorem d_O_add_66 : decode b_O_add 66 = .ok (.iadd, 1) := by decide +kernel
theorem d_O_add_67 : decode b_O_add 67 = .ok (.putfield 26, 3) := by decide +kernel
theorem d_O_add_70 : decode b_O_add 70 = .ok (.return_, 1) := by decide +kernel
theorem d_P_init_0 : decode b_P_init 0 = .ok (.aload_n 0, 1) := by decide +kernel
theorem d_P_init_1 : decode b_P_init 1 = .ok (.invokespecial 3, 3) := by decide +kernel
theorem d_P_init_4 : decode b_P_init 4 = .ok (.return_, 1) := by decide +kernel
theorem d_P_comeIn_0 : decode b_P_comeIn 0 = .ok (.aload_n 0, 1) := by decide +kernel
theorem d_P_comeIn_1 : decode b_P_comeIn 1 = .ok (.iload_n 1, 1) := by decide +kernel
theorem d_P_comeIn_2 : decode b_P_comeIn 2 = .ok (.putfield 9, 3) := by decide +kernel
theorem d_P_comeIn_5 : decode b_P_comeIn 5 = .ok (.aload_n 0, 1) := by decide +kernel
theorem d_P_comeIn_6 : decode b_P_comeIn 6 = .ok (.iload_n 2, 1) := by decide +kernel
theorem d_P_comeIn_7 : decode b_P_comeIn 7 = .ok (.putfield 15, 3) := by decide +kernel
theorem d_P_comeIn_10 : decode b_P_comeIn 10 = .ok (.aload_n 0, 1) := by decide +kernel
theorem d_P_comeIn_11 : decode b_P_comeIn 11 = .ok (.iload_n 3, 1) := by decide +kernel
theorem d_P_comeIn_12 : decode b_P_comeIn 12 = .ok (.putfield 18, 3) := by decide +kernel
theorem d_P_comeIn_15 : decode b_P_comeIn 15 = .ok (.aload_n 0, 1) := by decide +kernel
theorem d_P_comeIn_16 : decode b_P_comeIn 16 = .ok (.iconst 0, 1) := by decide +kernel
theorem d_P_comeIn_17 : decode b_P_comeIn 17 = .ok (.putfield 21, 3) := by decide +kernel
theorem d_P_comeIn_20 : decode b_P_comeIn 20 = .ok (.return_, 1) := by decide +kernel
theorem d_S_init_0 : decode b_S_init 0 = .ok (.aload_n 0, 1) := by decide +kernel
theorem d_S_init_1 : decode b_S_init 1 = .ok (.invokespecial 3, 3) := by decide +kernel
theorem d_S_init_4 : decode b_S_init 4 = .ok (.aload_n 0, 1) := by decide +kernel
theorem d_S_init_5 : decode b_S_init 5 = .ok (.iconst (-1), 1) := by decide +kernel
theorem d_S_init_6 : decode b_S_init 6 = .ok (.putfield 9, 3) := by decide +kernel
theorem d_S_init_9 : decode b_S_init 9 = .ok (.return_, 1) := by decide +kernel
theorem d_S_begin_0 : decode b_S_begin 0 = .ok (.aload_n 0, 1) := by decide +kernel
theorem d_S_begin_1 : decode b_S_begin 1 = .ok (.iconst 0, 1) := by decide +kernel
theorem d_S_begin_2 : decode b_S_begin 2 = .ok (.putfield 9, 3) := by decide +kernel
theorem d_S_begin_5 : decode b_S_begin 5 = .ok (.aload_n 0, 1) := by decide +kernel
theorem d_S_begin_6 : decode b_S_begin 6 = .ok (.iload_n 1, 1) := by decide +kernel
theorem d_S_begin_7 : decode b_S_begin 7 = .ok (.putfield 15, 3) := by decide +kernel
theorem d_S_begin_10 : decode b_S_begin 10 = .ok (.aload_n 0, 1) := by decide +kernel
theorem d_S_begin_11 : decode b_S_begin 11 = .ok (.iload_n 2, 1) := by decide +kernel
theorem d_S_begin_12 : decode b_S_begin 12 = .ok (.putfield 18, 3) := by decide +kernel
theorem d_S_begin_15 : decode b_S_begin 15 = .ok (.aload_n 0, 1) := by decide +kernel
theorem d_S_begin_16 : decode b_S_begin 16 = .ok (.iload_n 3, 1) := by decide +kernel
theorem d_S_begin_17 : decode b_S_begin 17 = .ok (.putfield 21, 3) := by decide +kernel
theorem d_S_begin_20 : decode b_S_begin 20 = .ok (.aload_n 0, 1) := by decide +kernel
theorem d_S_begin_21 : decode b_S_begin 21 = .ok (.iconst 0, 1) := by decide +kernel
theorem d_S_begin_22 : decode b_S_begin 22 = .ok (.putfield 24, 3) := by decide +kernel
theorem d_S_begin_25 : decode b_S_begin 25 = .ok (.aload_n 0, 1) := by decide +kernel
theorem d_S_begin_26 : decode b_S_begin 26 = .ok (.iconst (-1), 1) := by decide +kernel
theorem d_S_begin_27 : decode b_S_begin 27 = .ok (.putfield 27, 3) := by decide +kernel
theorem d_S_begin_30 : decode b_S_begin 30 = .ok (.aload_n 0, 1) := by decide +kernel
theorem d_S_begin_31 : decode b_S_begin 31 = .ok (.dconst 0, 1) := by decide +kernel
theorem d_S_begin_32 : decode b_S_begin 32 = .ok (.putfield 30, 3) := by decide +kernel
theorem d_S_begin_35 : decode b_S_begin 35 = .ok (.return_, 1) := by decide +kernel
theorem d_S_becomeLive_0 : decode b_S_becomeLive 0 = .ok (.aload_n 0, 1) := by decide +kernel
theorem d_S_becomeLive_1 : decode b_S_becomeLive 1 = .ok (.iconst 1, 1) := by decide +kernel
theorem d_S_becomeLive_2 : decode b_S_becomeLive 2 = .ok (.putfield 9, 3) := by decide +kernel
theorem d_S_becomeLive_5 : decode b_S_becomeLive 5 = .ok (.aload_n 0, 1) := by decide +kernel
theorem d_S_becomeLive_6 : decode b_S_becomeLive 6 = .ok (.iload_n 1, 1) := by decide +kernel
theorem d_S_becomeLive_7 : decode b_S_becomeLive 7 = .ok (.putfield 21, 3) := by decide +kernel
theorem d_S_becomeLive_10 : decode b_S_becomeLive 10 = .ok (.aload_n 0, 1) := by decide +kernel
theorem d_S_becomeLive_11 : decode b_S_becomeLive 11 = .ok (.iconst 0, 1) := by decide +kernel
theorem d_S_becomeLive_12 : decode b_S_becomeLive 12 = .ok (.putfield 24, 3) := by decide +kernel
theorem d_S_becomeLive_15 : decode b_S_becomeLive 15 = .ok (.aload_n 0, 1) := by decide +kernel
theorem d_S_becomeLive_16 : decode b_S_becomeLive 16 = .ok (.dconst 0, 1) := by decide +kernel
theorem d_S_becomeLive_17 : decode b_S_becomeLive 17 = .ok (.putfield 30, 3) := by decide +kernel
theorem d_S_becomeLive_20 : decode b_S_becomeLive 20 = .ok (.return_, 1) := by decide +kernel
theorem d_S_stop_0 : decode b_S_stop 0 = .ok (.aload_n 0, 1) := by decide +kernel
theorem d_S_stop_1 : decode b_S_stop 1 = .ok (.iconst 2, 1) := by decide +kernel
theorem d_S_stop_2 : decode b_S_stop 2 = .ok (.putfield 9, 3) := by decide +kernel
theorem d_S_stop_5 : decode b_S_stop 5 = .ok (.aload_n 0, 1) := by decide +kernel
theorem d_S_stop_6 : decode b_S_stop 6 = .ok (.iload_n 1, 1) := by decide +kernel
theorem d_S_stop_7 : decode b_S_stop 7 = .ok (.putfield 21, 3) := by decide +kernel
theorem d_S_stop_10 : decode b_S_stop 10 = .ok (.aload_n 0, 1) := by decide +kernel
theorem d_S_stop_11 : decode b_S_stop 11 = .ok (.iconst 1, 1) := by decide +kernel
theorem d_S_stop_12 : decode b_S_stop 12 = .ok (.putfield 24, 3) := by decide +kernel
theorem d_S_stop_15 : decode b_S_stop 15 = .ok (.return_, 1) := by decide +kernel
theorem d_S_end_0 : decode b_S_end 0 = .ok (.aload_n 0, 1) := by decide +kernel
theorem d_S_end_1 : decode b_S_end 1 = .ok (.iconst (-1), 1) := by decide +kernel
theorem d_S_end_2 : decode b_S_end 2 = .ok (.putfield 9, 3) := by decide +kernel
theorem d_S_end_5 : decode b_S_end 5 = .ok (.aload_n 0, 1) := by decide +kernel
theorem d_S_end_6 : decode b_S_end 6 = .ok (.iconst 0, 1) := by decide +kernel
theorem d_S_end_7 : decode b_S_end 7 = .ok (.putfield 34, 3) := by decide +kernel
theorem d_S_end_10 : decode b_S_end 10 = .ok (.return_, 1) := by decide +kernel
theorem d_S_takes_0 : decode b_S_takes 0 = .ok (.aload_n 0, 1) := by decide +kernel
theorem d_S_takes_1 : decode b_S_takes 1 = .ok (.getfield 9, 3) := by decide +kernel
theorem d_S_takes_4 : decode b_S_takes 4 = .ok (.iconst 1, 1) := by decide +kernel
theorem d_S_takes_5 : decode b_S_takes 5 = .ok (.if_icmp .ne 15, 3) := by decide +kernel
theorem d_S_takes_8 : decode b_S_takes 8 = .ok (.aload_n 0, 1) := by decide +kernel
theorem d_S_takes_9 : decode b_S_takes 9 = .ok (.getfield 15, 3) := by decide +kernel
theorem d_S_takes_12 : decode b_S_takes 12 = .ok (.iload_n 1, 1) := by decide +kernel
theorem d_S_takes_13 : decode b_S_takes 13 = .ok (.if_icmp .ne 7, 3) := by decide +kernel
theorem d_S_takes_16 : decode b_S_takes 16 = .ok (.iconst 1, 1) := by decide +kernel
theorem d_S_takes_17 : decode b_S_takes 17 = .ok (.goto 4, 3) := by decide +kernel
theorem d_S_takes_20 : decode b_S_takes 20 = .ok (.iconst 0, 1) := by decide +kernel
theorem d_S_takes_21 : decode b_S_takes 21 = .ok (.ireturn, 1) := by decide +kernel
theorem d_S_fade_0 : decode b_S_fade 0 = .ok (.aload_n 0, 1) := by decide +kernel
theorem d_S_fade_1 : decode b_S_fade 1 = .ok (.getfield 27, 3) := by decide +kernel
theorem d_S_fade_4 : decode b_S_fade 4 = .ok (.iload_n 1, 1) := by decide +kernel
theorem d_S_fade_5 : decode b_S_fade 5 = .ok (.iconst 1, 1) := by decide +kernel
theorem d_S_fade_6 : decode b_S_fade 6 = .ok (.isub, 1) := by decide +kernel
theorem d_S_fade_7 : decode b_S_fade 7 = .ok (.if_icmp .eq 29, 3) := by decide +kernel
theorem d_S_fade_10 : decode b_S_fade 10 = .ok (.aload_n 0, 1) := by decide +kernel
theorem d_S_fade_11 : decode b_S_fade 11 = .ok (.getfield 30, 3) := by decide +kernel
theorem d_S_fade_14 : decode b_S_fade 14 = .ok (.ldc2_w 38, 3) := by decide +kernel
theorem d_S_fade_17 : decode b_S_fade 17 = .ok (.dmul, 1) := by decide +kernel
theorem d_S_fade_18 : decode b_S_fade 18 = .ok (.dstore_n 2, 1) := by decide +kernel
theorem d_S_fade_19 : decode b_S_fade 19 = .ok (.aload_n 0, 1) := by decide +kernel
theorem d_S_fade_20 : decode b_S_fade 20 = .ok (.dload_n 2, 1) := by decide +kernel
theorem d_S_fade_21 : decode b_S_fade 21 = .ok (.ldc2_w 40, 3) := by decide +kernel
theorem d_S_fade_24 : decode b_S_fade 24 = .ok (.dcmp .g, 1) := by decide +kernel
theorem d_S_fade_25 : decode b_S_fade 25 = .ok (.ifCond .ge 7, 3) := by decide +kernel
