theorem dX12_init_0 : decode cX12_init 0 = .ok (.aload_n 0, 1) := by decide +kernel
theorem dX12_init_1 : decode cX12_init 1 = .ok (.invokespecial 1, 3) := by decide +kernel
theorem dX12_init_4 : decode cX12_init 4 = .ok (.aload_n 0, 1) := by decide +kernel
theorem dX12_init_5 : decode cX12_init 5 = .ok (.new 7, 3) := by decide +kernel
theorem dX12_init_8 : decode cX12_init 8 = .ok (.dup, 1) := by decide +kernel
theorem dX12_init_9 : decode cX12_init 9 = .ok (.invokespecial 9, 3) := by decide +kernel
theorem dX12_init_12 : decode cX12_init 12 = .ok (.putfield 10, 3) := by decide +kernel
theorem dX12_init_15 : decode cX12_init 15 = .ok (.aload_n 0, 1) := by decide +kernel
theorem dX12_init_16 : decode cX12_init 16 = .ok (.new 7, 3) := by decide +kernel
theorem dX12_init_19 : decode cX12_init 19 = .ok (.dup, 1) := by decide +kernel
theorem dX12_init_20 : decode cX12_init 20 = .ok (.invokespecial 9, 3) := by decide +kernel
theorem dX12_init_23 : decode cX12_init 23 = .ok (.putfield 16, 3) := by decide +kernel
theorem dX12_init_26 : decode cX12_init 26 = .ok (.aload_n 0, 1) := by decide +kernel
theorem dX12_init_27 : decode cX12_init 27 = .ok (.new 7, 3) := by decide +kernel
theorem dX12_init_30 : decode cX12_init 30 = .ok (.dup, 1) := by decide +kernel
theorem dX12_init_31 : decode cX12_init 31 = .ok (.invokespecial 9, 3) := by decide +kernel
theorem dX12_init_34 : decode cX12_init 34 = .ok (.putfield 19, 3) := by decide +kernel
theorem dX12_init_37 : decode cX12_init 37 = .ok (.aload_n 0, 1) := by decide +kernel
theorem dX12_init_38 : decode cX12_init 38 = .ok (.new 7, 3) := by decide +kernel
theorem dX12_init_41 : decode cX12_init 41 = .ok (.dup, 1) := by decide +kernel
theorem dX12_init_42 : decode cX12_init 42 = .ok (.invokespecial 9, 3) := by decide +kernel
theorem dX12_init_45 : decode cX12_init 45 = .ok (.putfield 22, 3) := by decide +kernel
theorem dX12_init_48 : decode cX12_init 48 = .ok (.aload_n 0, 1) := by decide +kernel
theorem dX12_init_49 : decode cX12_init 49 = .ok (.new 7, 3) := by decide +kernel
theorem dX12_init_52 : decode cX12_init 52 = .ok (.dup, 1) := by decide +kernel
theorem dX12_init_53 : decode cX12_init 53 = .ok (.invokespecial 9, 3) := by decide +kernel
theorem dX12_init_56 : decode cX12_init 56 = .ok (.putfield 25, 3) := by decide +kernel
theorem dX12_init_59 : decode cX12_init 59 = .ok (.aload_n 0, 1) := by decide +kernel
theorem dX12_init_60 : decode cX12_init 60 = .ok (.bipush 7, 2) := by decide +kernel
theorem dX12_init_62 : decode cX12_init 62 = .ok (.newarray .int, 2) := by decide +kernel
theorem dX12_init_64 : decode cX12_init 64 = .ok (.putfield 28, 3) := by decide +kernel
theorem dX12_init_67 : decode cX12_init 67 = .ok (.aload_n 0, 1) := by decide +kernel
theorem dX12_init_68 : decode cX12_init 68 = .ok (.bipush 7, 2) := by decide +kernel
theorem dX12_init_70 : decode cX12_init 70 = .ok (.newarray .int, 2) := by decide +kernel
theorem dX12_init_72 : decode cX12_init 72 = .ok (.putfield 32, 3) := by decide +kernel
theorem dX12_init_75 : decode cX12_init 75 = .ok (.aload_n 0, 1) := by decide +kernel
theorem dX12_init_76 : decode cX12_init 76 = .ok (.bipush 7, 2) := by decide +kernel
theorem dX12_init_78 : decode cX12_init 78 = .ok (.newarray .int, 2) := by decide +kernel
theorem dX12_init_80 : decode cX12_init 80 = .ok (.putfield 35, 3) := by decide +kernel
theorem dX12_init_83 : decode cX12_init 83 = .ok (.return_, 1) := by decide +kernel
theorem dX12_thrown_0 : decode cX12_thrown 0 = .ok (.aload_n 0, 1) := by decide +kernel
theorem dX12_thrown_1 : decode cX12_thrown 1 = .ok (.getfield 38, 3) := by decide +kernel
theorem dX12_thrown_4 : decode cX12_thrown 4 = .ok (.ireturn, 1) := by decide +kernel
theorem dX12_refuse_0 : decode cX12_refuse 0 = .ok (.aload_n 0, 1) := by decide +kernel
theorem dX12_refuse_1 : decode cX12_refuse 1 = .ok (.iload_n 1, 1) := by decide +kernel
theorem dX12_refuse_2 : decode cX12_refuse 2 = .ok (.putfield 38, 3) := by decide +kernel
theorem dX12_refuse_5 : decode cX12_refuse 5 = .ok (.iconst 0, 1) := by decide +kernel
theorem dX12_refuse_6 : decode cX12_refuse 6 = .ok (.ireturn, 1) := by decide +kernel
theorem dX12_is_0 : decode cX12_is 0 = .ok (.iload_n 0, 1) := by decide +kernel
theorem dX12_is_1 : decode cX12_is 1 = .ok (.iload_n 1, 1) := by decide +kernel
theorem dX12_is_2 : decode cX12_is 2 = .ok (.if_icmp .lt 12, 3) := by decide +kernel
theorem dX12_is_5 : decode cX12_is 5 = .ok (.iload_n 0, 1) := by decide +kernel
theorem dX12_is_6 : decode cX12_is 6 = .ok (.iload_n 2, 1) := by decide +kernel
theorem dX12_is_7 : decode cX12_is 7 = .ok (.if_icmp .gt 7, 3) := by decide +kernel
theorem dX12_is_10 : decode cX12_is 10 = .ok (.iconst 1, 1) := by decide +kernel
theorem dX12_is_11 : decode cX12_is 11 = .ok (.goto 4, 3) := by decide +kernel
theorem dX12_is_14 : decode cX12_is 14 = .ok (.iconst 0, 1) := by decide +kernel
theorem dX12_is_15 : decode cX12_is 15 = .ok (.ireturn, 1) := by decide +kernel
theorem dX12_isIn_0 : decode cX12_isIn 0 = .ok (.iload_n 0, 1) := by decide +kernel
theorem dX12_isIn_1 : decode cX12_isIn 1 = .ok (.iload_n 1, 1) := by decide +kernel
theorem dX12_isIn_2 : decode cX12_isIn 2 = .ok (.ishr, 1) := by decide +kernel
theorem dX12_isIn_3 : decode cX12_isIn 3 = .ok (.iconst 1, 1) := by decide +kernel
theorem dX12_isIn_4 : decode cX12_isIn 4 = .ok (.iand, 1) := by decide +kernel
theorem dX12_isIn_5 : decode cX12_isIn 5 = .ok (.iconst 1, 1) := by decide +kernel
theorem dX12_isIn_6 : decode cX12_isIn 6 = .ok (.if_icmp .ne 7, 3) := by decide +kernel
theorem dX12_isIn_9 : decode cX12_isIn 9 = .ok (.iconst 1, 1) := by decide +kernel
theorem dX12_isIn_10 : decode cX12_isIn 10 = .ok (.goto 4, 3) := by decide +kernel
theorem dX12_isIn_13 : decode cX12_isIn 13 = .ok (.iconst 0, 1) := by decide +kernel
theorem dX12_isIn_14 : decode cX12_isIn 14 = .ok (.ireturn, 1) := by decide +kernel
theorem dX12_isPart_0 : decode cX12_isPart 0 = .ok (.iload_n 1, 1) := by decide +kernel
theorem dX12_isPart_1 : decode cX12_isPart 1 = .ok (.iconst 0, 1) := by decide +kernel
theorem dX12_isPart_2 : decode cX12_isPart 2 = .ok (.aload_n 0, 1) := by decide +kernel
theorem dX12_isPart_3 : decode cX12_isPart 3 = .ok (.getfield 10, 3) := by decide +kernel
theorem dX12_isPart_6 : decode cX12_isPart 6 = .ok (.invokevirtual 42, 3) := by decide +kernel
theorem dX12_isPart_9 : decode cX12_isPart 9 = .ok (.iconst 1, 1) := by decide +kernel
theorem dX12_isPart_10 : decode cX12_isPart 10 = .ok (.isub, 1) := by decide +kernel
theorem dX12_isPart_11 : decode cX12_isPart 11 = .ok (.invokestatic 46, 3) := by decide +kernel
theorem dX12_isPart_14 : decode cX12_isPart 14 = .ok (.ireturn, 1) := by decide +kernel
theorem dX12_isPlayer_0 : decode cX12_isPlayer 0 = .ok (.iload_n 1, 1) := by decide +kernel
theorem dX12_isPlayer_1 : decode cX12_isPlayer 1 = .ok (.iconst 0, 1) := by decide +kernel
theorem dX12_isPlayer_2 : decode cX12_isPlayer 2 = .ok (.aload_n 0, 1) := by decide +kernel
theorem dX12_isPlayer_3 : decode cX12_isPlayer 3 = .ok (.getfield 16, 3) := by decide +kernel
theorem dX12_isPlayer_6 : decode cX12_isPlayer 6 = .ok (.invokevirtual 42, 3) := by decide +kernel
theorem dX12_isPlayer_9 : decode cX12_isPlayer 9 = .ok (.iconst 1, 1) := by decide +kernel
theorem dX12_isPlayer_10 : decode cX12_isPlayer 10 = .ok (.isub, 1) := by decide +kernel
theorem dX12_isPlayer_11 : decode cX12_isPlayer 11 = .ok (.invokestatic 46, 3) := by decide +kernel
theorem dX12_isPlayer_14 : decode cX12_isPlayer 14 = .ok (.ireturn, 1) := by decide +kernel
theorem dX12_isScene_0 : decode cX12_isScene 0 = .ok (.iload_n 1, 1) := by decide +kernel
theorem dX12_isScene_1 : decode cX12_isScene 1 = .ok (.iconst 0, 1) := by decide +kernel
theorem dX12_isScene_2 : decode cX12_isScene 2 = .ok (.aload_n 0, 1) := by decide +kernel
theorem dX12_isScene_3 : decode cX12_isScene 3 = .ok (.getfield 19, 3) := by decide +kernel
theorem dX12_isScene_6 : decode cX12_isScene 6 = .ok (.invokevirtual 42, 3) := by decide +kernel
theorem dX12_isScene_9 : decode cX12_isScene 9 = .ok (.iconst 1, 1) := by decide +kernel
theorem dX12_isScene_10 : decode cX12_isScene 10 = .ok (.isub, 1) := by decide +kernel
theorem dX12_isScene_11 : decode cX12_isScene 11 = .ok (.invokestatic 46, 3) := by decide +kernel
theorem dX12_isScene_14 : decode cX12_isScene 14 = .ok (.ireturn, 1) := by decide +kernel
theorem dX12_isCoat_0 : decode cX12_isCoat 0 = .ok (.iload_n 1, 1) := by decide +kernel
theorem dX12_isCoat_1 : decode cX12_isCoat 1 = .ok (.iconst 0, 1) := by decide +kernel
theorem dX12_isCoat_2 : decode cX12_isCoat 2 = .ok (.aload_n 0, 1) := by decide +kernel
theorem dX12_isCoat_3 : decode cX12_isCoat 3 = .ok (.getfield 22, 3) := by decide +kernel
theorem dX12_isCoat_6 : decode cX12_isCoat 6 = .ok (.invokevirtual 42, 3) := by decide +kernel
theorem dX12_isCoat_9 : decode cX12_isCoat 9 = .ok (.iconst 1, 1) := by decide +kernel
theorem dX12_isCoat_10 : decode cX12_isCoat 10 = .ok (.isub, 1) := by decide +kernel
theorem dX12_isCoat_11 : decode cX12_isCoat 11 = .ok (.invokestatic 46, 3) := by decide +kernel
theorem dX12_isCoat_14 : decode cX12_isCoat 14 = .ok (.ireturn, 1) := by decide +kernel
theorem dX12_isTown_0 : decode cX12_isTown 0 = .ok (.iload_n 1, 1) := by decide +kernel
theorem dX12_isTown_1 : decode cX12_isTown 1 = .ok (.iconst 0, 1) := by decide +kernel
theorem dX12_isTown_2 : decode cX12_isTown 2 = .ok (.aload_n 0, 1) := by decide +kernel
theorem dX12_isTown_3 : decode cX12_isTown 3 = .ok (.getfield 25, 3) := by decide +kernel
theorem dX12_isTown_6 : decode cX12_isTown 6 = .ok (.invokevirtual 42, 3) := by decide +kernel
theorem dX12_isTown_9 : decode cX12_isTown 9 = .ok (.iconst 1, 1) := by decide +kernel
theorem dX12_isTown_10 : decode cX12_isTown 10 = .ok (.isub, 1) := by decide +kernel
theorem dX12_isTown_11 : decode cX12_isTown 11 = .ok (.invokestatic 46, 3) := by decide +kernel
theorem dX12_isTown_14 : decode cX12_isTown 14 = .ok (.ireturn, 1) := by decide +kernel
theorem dX12_all_0 : decode cX12_all 0 = .ok (.iconst 1, 1) := by decide +kernel
theorem dX12_all_1 : decode cX12_all 1 = .ok (.aload_n 0, 1) := by decide +kernel
theorem dX12_all_2 : decode cX12_all 2 = .ok (.getfield 19, 3) := by decide +kernel
theorem dX12_all_5 : decode cX12_all 5 = .ok (.invokevirtual 42, 3) := by decide +kernel
theorem dX12_all_8 : decode cX12_all 8 = .ok (.ishl, 1) := by decide +kernel
theorem dX12_all_9 : decode cX12_all 9 = .ok (.iconst 1, 1) := by decide +kernel
theorem dX12_all_10 : decode cX12_all 10 = .ok (.isub, 1) := by decide +kernel
theorem dX12_all_11 : decode cX12_all 11 = .ok (.ireturn, 1) := by decide +kernel
theorem dX12_part_0 : decode cX12_part 0 = .ok (.aload_n 0, 1) := by decide +kernel
theorem dX12_part_1 : decode cX12_part 1 = .ok (.iconst 0, 1) := by decide +kernel
theorem dX12_part_2 : decode cX12_part 2 = .ok (.putfield 38, 3) := by decide +kernel
theorem dX12_part_5 : decode cX12_part 5 = .ok (.iload_n 1, 1) := by decide +kernel
theorem dX12_part_6 : decode cX12_part 6 = .ok (.iconst 0, 1) := by decide +kernel
theorem dX12_part_7 : decode cX12_part 7 = .ok (.iconst 3, 1) := by decide +kernel
theorem dX12_part_8 : decode cX12_part 8 = .ok (.invokestatic 46, 3) := by decide +kernel
theorem dX12_part_11 : decode cX12_part 11 = .ok (.ifCond .eq 22, 3) := by decide +kernel
theorem dX12_part_14 : decode cX12_part 14 = .ok (.iload_n 2, 1) := by decide +kernel
theorem dX12_part_15 : decode cX12_part 15 = .ok (.iconst 0, 1) := by decide +kernel
theorem dX12_part_16 : decode cX12_part 16 = .ok (.iconst 3, 1) := by decide +kernel
theorem dX12_part_17 : decode cX12_part 17 = .ok (.invokestatic 46, 3) := by decide +kernel
theorem dX12_part_20 : decode cX12_part 20 = .ok (.ifCond .eq 13, 3) := by decide +kernel
theorem dX12_part_23 : decode cX12_part 23 = .ok (.iload_n 3, 1) := by decide +kernel
theorem dX12_part_24 : decode cX12_part 24 = .ok (.iconst 0, 1) := by decide +kernel
theorem dX12_part_25 : decode cX12_part 25 = .ok (.bipush 9, 2) := by decide +kernel
theorem dX12_part_27 : decode cX12_part 27 = .ok (.invokestatic 46, 3) := by decide +kernel
theorem dX12_part_30 : decode cX12_part 30 = .ok (.ifCond .ne 9, 3) := by decide +kernel
theorem dX12_part_33 : decode cX12_part 33 = .ok (.aload_n 0, 1) := by decide +kernel
theorem dX12_part_34 : decode cX12_part 34 = .ok (.iconst 1, 1) := by decide +kernel
theorem dX12_part_35 : decode cX12_part 35 = .ok (.invokevirtual 50, 3) := by decide +kernel
theorem dX12_part_38 : decode cX12_part 38 = .ok (.ireturn, 1) := by decide +kernel
theorem dX12_part_39 : decode cX12_part 39 = .ok (.aload_n 0, 1) := by decide +kernel
theorem dX12_part_40 : decode cX12_part 40 = .ok (.getfield 10, 3) := by decide +kernel
theorem dX12_part_43 : decode cX12_part 43 = .ok (.invokevirtual 42, 3) := by decide +kernel
theorem dX12_part_46 : decode cX12_part 46 = .ok (.bipush 7, 2) := by decide +kernel
theorem dX12_part_48 : decode cX12_part 48 = .ok (.if_icmp .ne 9, 3) := by decide +kernel
theorem dX12_part_51 : decode cX12_part 51 = .ok (.aload_n 0, 1) := by decide +kernel
theorem dX12_part_52 : decode cX12_part 52 = .ok (.iconst 2, 1) := by decide +kernel
theorem dX12_part_53 : decode cX12_part 53 = .ok (.invokevirtual 50, 3) := by decide +kernel
theorem dX12_part_56 : decode cX12_part 56 = .ok (.ireturn, 1) := by decide +kernel
theorem dX12_part_57 : decode cX12_part 57 = .ok (.new 54, 3) := by decide +kernel
theorem dX12_part_60 : decode cX12_part 60 = .ok (.dup, 1) := by decide +kernel
theorem dX12_part_61 : decode cX12_part 61 = .ok (.invokespecial 56, 3) := by decide +kernel
theorem dX12_part_64 : decode cX12_part 64 = .ok (.astore 4, 2) := by decide +kernel
theorem dX12_part_66 : decode cX12_part 66 = .ok (.aload 4, 2) := by decide +kernel
theorem dX12_part_68 : decode cX12_part 68 = .ok (.iload_n 1, 1) := by decide +kernel
theorem dX12_part_69 : decode cX12_part 69 = .ok (.putfield 57, 3) := by decide +kernel
theorem dX12_part_72 : decode cX12_part 72 = .ok (.aload 4, 2) := by decide +kernel
theorem dX12_part_74 : decode cX12_part 74 = .ok (.iload_n 2, 1) := by decide +kernel
theorem dX12_part_75 : decode cX12_part 75 = .ok (.putfield 60, 3) := by decide +kernel
theorem dX12_part_78 : decode cX12_part 78 = .ok (.aload 4, 2) := by decide +kernel
theorem dX12_part_80 : decode cX12_part 80 = .ok (.iload_n 3, 1) := by decide +kernel
theorem dX12_part_81 : decode cX12_part 81 = .ok (.putfield 63, 3) := by decide +kernel
theorem dX12_part_84 : decode cX12_part 84 = .ok (.aload_n 0, 1) := by decide +kernel
theorem dX12_part_85 : decode cX12_part 85 = .ok (.getfield 10, 3) := by decide +kernel
theorem dX12_part_88 : decode cX12_part 88 = .ok (.aload 4, 2) := by decide +kernel
theorem dX12_part_90 : decode cX12_part 90 = .ok (.invokevirtual 66, 3) := by decide +kernel
theorem dX12_part_93 : decode cX12_part 93 = .ok (.pop, 1) := by decide +kernel
theorem dX12_part_94 : decode cX12_part 94 = .ok (.aload_n 0, 1) := by decide +kernel
theorem dX12_part_95 : decode cX12_part 95 = .ok (.iconst 0, 1) := by decide +kernel
theorem dX12_part_96 : decode cX12_part 96 = .ok (.putfield 70, 3) := by decide +kernel
theorem dX12_part_99 : decode cX12_part 99 = .ok (.aload_n 0, 1) := by decide +kernel
theorem dX12_part_100 : decode cX12_part 100 = .ok (.getfield 10, 3) := by decide +kernel
theorem dX12_part_103 : decode cX12_part 103 = .ok (.invokevirtual 42, 3) := by decide +kernel
theorem dX12_part_106 : decode cX12_part 106 = .ok (.iconst 1, 1) := by decide +kernel
theorem dX12_part_107 : decode cX12_part 107 = .ok (.isub, 1) := by decide +kernel
theorem dX12_part_108 : decode cX12_part 108 = .ok (.ireturn, 1) := by decide +kernel
theorem dX12_player_0 : decode cX12_player 0 = .ok (.aload_n 0, 1) := by decide +kernel
theorem dX12_player_1 : decode cX12_player 1 = .ok (.iconst 0, 1) := by decide +kernel
theorem dX12_player_2 : decode cX12_player 2 = .ok (.putfield 38, 3) := by decide +kernel
theorem dX12_player_5 : decode cX12_player 5 = .ok (.iload_n 1, 1) := by decide +kernel
theorem dX12_player_6 : decode cX12_player 6 = .ok (.iconst 0, 1) := by decide +kernel
theorem dX12_player_7 : decode cX12_player 7 = .ok (.bipush 15, 2) := by decide +kernel
theorem dX12_player_9 : decode cX12_player 9 = .ok (.invokestatic 46, 3) := by decide +kernel
theorem dX12_player_12 : decode cX12_player 12 = .ok (.ifCond .eq 22, 3) := by decide +kernel
theorem dX12_player_15 : decode cX12_player 15 = .ok (.iload_n 2, 1) := by decide +kernel
theorem dX12_player_16 : decode cX12_player 16 = .ok (.iconst 1, 1) := by decide +kernel
theorem dX12_player_17 : decode cX12_player 17 = .ok (.bipush 9, 2) := by decide +kernel
theorem dX12_player_19 : decode cX12_player 19 = .ok (.invokestatic 46, 3) := by decide +kernel
theorem dX12_player_22 : decode cX12_player 22 = .ok (.ifCond .eq 12, 3) := by decide +kernel
theorem dX12_player_25 : decode cX12_player 25 = .ok (.iload_n 3, 1) := by decide +kernel
theorem dX12_player_26 : decode cX12_player 26 = .ok (.iconst 1, 1) := by decide +kernel
theorem dX12_player_27 : decode cX12_player 27 = .ok (.iconst 5, 1) := by decide +kernel
theorem dX12_player_28 : decode cX12_player 28 = .ok (.invokestatic 46, 3) := by decide +kernel
theorem dX12_player_31 : decode cX12_player 31 = .ok (.ifCond .ne 9, 3) := by decide +kernel
theorem dX12_player_34 : decode cX12_player 34 = .ok (.aload_n 0, 1) := by decide +kernel
theorem dX12_player_35 : decode cX12_player 35 = .ok (.iconst 1, 1) := by decide +kernel
theorem dX12_player_36 : decode cX12_player 36 = .ok (.invokevirtual 50, 3) := by decide +kernel
theorem dX12_player_39 : decode cX12_player 39 = .ok (.ireturn, 1) := by decide +kernel
theorem dX12_player_40 : decode cX12_player 40 = .ok (.aload_n 0, 1) := by decide +kernel
theorem dX12_player_41 : decode cX12_player 41 = .ok (.getfield 16, 3) := by decide +kernel
theorem dX12_player_44 : decode cX12_player 44 = .ok (.invokevirtual 42, 3) := by decide +kernel
theorem dX12_player_47 : decode cX12_player 47 = .ok (.iconst 5, 1) := by decide +kernel
theorem dX12_player_48 : decode cX12_player 48 = .ok (.if_icmp .ne 9, 3) := by decide +kernel
theorem dX12_player_51 : decode cX12_player 51 = .ok (.aload_n 0, 1) := by decide +kernel
theorem dX12_player_52 : decode cX12_player 52 = .ok (.iconst 2, 1) := by decide +kernel
theorem dX12_player_53 : decode cX12_player 53 = .ok (.invokevirtual 50, 3) := by decide +kernel
theorem dX12_player_56 : decode cX12_player 56 = .ok (.ireturn, 1) := by decide +kernel
theorem dX12_player_57 : decode cX12_player 57 = .ok (.new 74, 3) := by decide +kernel
theorem dX12_player_60 : decode cX12_player 60 = .ok (.dup, 1) := by decide +kernel
theorem dX12_player_61 : decode cX12_player 61 = .ok (.invokespecial 76, 3) := by decide +kernel
theorem dX12_player_64 : decode cX12_player 64 = .ok (.astore 4, 2) := by decide +kernel
theorem dX12_player_66 : decode cX12_player 66 = .ok (.aload 4, 2) := by decide +kernel
theorem dX12_player_68 : decode cX12_player 68 = .ok (.iload_n 1, 1) := by decide +kernel
theorem dX12_player_69 : decode cX12_player 69 = .ok (.putfield 77, 3) := by decide +kernel
theorem dX12_player_72 : decode cX12_player 72 = .ok (.aload 4, 2) := by decide +kernel
theorem dX12_player_74 : decode cX12_player 74 = .ok (.iload_n 2, 1) := by decide +kernel
theorem dX12_player_75 : decode cX12_player 75 = .ok (.putfield 80, 3) := by decide +kernel
theorem dX12_player_78 : decode cX12_player 78 = .ok (.aload 4, 2) := by decide +kernel
theorem dX12_player_80 : decode cX12_player 80 = .ok (.iload_n 3, 1) := by decide +kernel
theorem dX12_player_81 : decode cX12_player 81 = .ok (.putfield 82, 3) := by decide +kernel
theorem dX12_player_84 : decode cX12_player 84 = .ok (.aload_n 0, 1) := by decide +kernel
theorem dX12_player_85 : decode cX12_player 85 = .ok (.getfield 16, 3) := by decide +kernel
theorem dX12_player_88 : decode cX12_player 88 = .ok (.aload 4, 2) := by decide +kernel
theorem dX12_player_90 : decode cX12_player 90 = .ok (.invokevirtual 66, 3) := by decide +kernel
theorem dX12_player_93 : decode cX12_player 93 = .ok (.pop, 1) := by decide +kernel
theorem dX12_player_94 : decode cX12_player 94 = .ok (.aload_n 0, 1) := by decide +kernel
theorem dX12_player_95 : decode cX12_player 95 = .ok (.iconst 0, 1) := by decide +kernel
theorem dX12_player_96 : decode cX12_player 96 = .ok (.putfield 70, 3) := by decide +kernel
theorem dX12_player_99 : decode cX12_player 99 = .ok (.aload_n 0, 1) := by decide +kernel
theorem dX12_player_100 : decode cX12_player 100 = .ok (.getfield 16, 3) := by decide +kernel
theorem dX12_player_103 : decode cX12_player 103 = .ok (.invokevirtual 42, 3) := by decide +kernel
theorem dX12_player_106 : decode cX12_player 106 = .ok (.iconst 1, 1) := by decide +kernel
theorem dX12_player_107 : decode cX12_player 107 = .ok (.isub, 1) := by decide +kernel
theorem dX12_player_108 : decode cX12_player 108 = .ok (.ireturn, 1) := by decide +kernel
theorem dX12_scene_0 : decode cX12_scene 0 = .ok (.aload_n 0, 1) := by decide +kernel
theorem dX12_scene_1 : decode cX12_scene 1 = .ok (.iconst 0, 1) := by decide +kernel
theorem dX12_scene_2 : decode cX12_scene 2 = .ok (.putfield 38, 3) := by decide +kernel
theorem dX12_scene_5 : decode cX12_scene 5 = .ok (.iload_n 1, 1) := by decide +kernel
theorem dX12_scene_6 : decode cX12_scene 6 = .ok (.iconst 1, 1) := by decide +kernel
theorem dX12_scene_7 : decode cX12_scene 7 = .ok (.iconst 1, 1) := by decide +kernel
theorem dX12_scene_8 : decode cX12_scene 8 = .ok (.aload_n 0, 1) := by decide +kernel
theorem dX12_scene_9 : decode cX12_scene 9 = .ok (.getfield 10, 3) := by decide +kernel
theorem dX12_scene_12 : decode cX12_scene 12 = .ok (.invokevirtual 42, 3) := by decide +kernel
theorem dX12_scene_15 : decode cX12_scene 15 = .ok (.ishl, 1) := by decide +kernel
theorem dX12_scene_16 : decode cX12_scene 16 = .ok (.iconst 1, 1) := by decide +kernel
theorem dX12_scene_17 : decode cX12_scene 17 = .ok (.isub, 1) := by decide +kernel
theorem dX12_scene_18 : decode cX12_scene 18 = .ok (.invokestatic 46, 3) := by decide +kernel
theorem dX12_scene_21 : decode cX12_scene 21 = .ok (.ifCond .eq 13, 3) := by decide +kernel
theorem dX12_scene_24 : decode cX12_scene 24 = .ok (.iload_n 2, 1) := by decide +kernel
theorem dX12_scene_25 : decode cX12_scene 25 = .ok (.iconst 0, 1) := by decide +kernel
theorem dX12_scene_26 : decode cX12_scene 26 = .ok (.bipush 9, 2) := by decide +kernel
theorem dX12_scene_28 : decode cX12_scene 28 = .ok (.invokestatic 46, 3) := by decide +kernel
theorem dX12_scene_31 : decode cX12_scene 31 = .ok (.ifCond .ne 9, 3) := by decide +kernel
theorem dX12_scene_34 : decode cX12_scene 34 = .ok (.aload_n 0, 1) := by decide +kernel
theorem dX12_scene_35 : decode cX12_scene 35 = .ok (.iconst 1, 1) := by decide +kernel
theorem dX12_scene_36 : decode cX12_scene 36 = .ok (.invokevirtual 50, 3) := by decide +kernel
theorem dX12_scene_39 : decode cX12_scene 39 = .ok (.ireturn, 1) := by decide +kernel
theorem dX12_scene_40 : decode cX12_scene 40 = .ok (.aload_n 0, 1) := by decide +kernel
theorem dX12_scene_41 : decode cX12_scene 41 = .ok (.getfield 19, 3) := by decide +kernel
theorem dX12_scene_44 : decode cX12_scene 44 = .ok (.invokevirtual 42, 3) := by decide +kernel
theorem dX12_scene_47 : decode cX12_scene 47 = .ok (.bipush 6, 2) := by decide +kernel
theorem dX12_scene_49 : decode cX12_scene 49 = .ok (.if_icmp .ne 9, 3) := by decide +kernel
theorem dX12_scene_52 : decode cX12_scene 52 = .ok (.aload_n 0, 1) := by decide +kernel
theorem dX12_scene_53 : decode cX12_scene 53 = .ok (.iconst 2, 1) := by decide +kernel
theorem dX12_scene_54 : decode cX12_scene 54 = .ok (.invokevirtual 50, 3) := by decide +kernel
theorem dX12_scene_57 : decode cX12_scene 57 = .ok (.ireturn, 1) := by decide +kernel
theorem dX12_scene_58 : decode cX12_scene 58 = .ok (.new 85, 3) := by decide +kernel
theorem dX12_scene_61 : decode cX12_scene 61 = .ok (.dup, 1) := by decide +kernel
theorem dX12_scene_62 : decode cX12_scene 62 = .ok (.invokespecial 87, 3) := by decide +kernel
theorem dX12_scene_65 : decode cX12_scene 65 = .ok (.astore_n 3, 1) := by decide +kernel
theorem dX12_scene_66 : decode cX12_scene 66 = .ok (.aload_n 3, 1) := by decide +kernel
theorem dX12_scene_67 : decode cX12_scene 67 = .ok (.iload_n 1, 1) := by decide +kernel
theorem dX12_scene_68 : decode cX12_scene 68 = .ok (.putfield 88, 3) := by decide +kernel
theorem dX12_scene_71 : decode cX12_scene 71 = .ok (.aload_n 3, 1) := by decide +kernel
theorem dX12_scene_72 : decode cX12_scene 72 = .ok (.iload_n 2, 1) := by decide +kernel
theorem dX12_scene_73 : decode cX12_scene 73 = .ok (.putfield 90, 3) := by decide +kernel
theorem dX12_scene_76 : decode cX12_scene 76 = .ok (.aload_n 0, 1) := by decide +kernel
theorem dX12_scene_77 : decode cX12_scene 77 = .ok (.getfield 19, 3) := by decide +kernel
theorem dX12_scene_80 : decode cX12_scene 80 = .ok (.aload_n 3, 1) := by decide +kernel
theorem dX12_scene_81 : decode cX12_scene 81 = .ok (.invokevirtual 66, 3) := by decide +kernel
theorem dX12_scene_84 : decode cX12_scene 84 = .ok (.pop, 1) := by decide +kernel
theorem dX12_scene_85 : decode cX12_scene 85 = .ok (.aload_n 0, 1) := by decide +kernel
theorem dX12_scene_86 : decode cX12_scene 86 = .ok (.iconst 0, 1) := by decide +kernel
theorem dX12_scene_87 : decode cX12_scene 87 = .ok (.putfield 70, 3) := by decide +kernel
theorem dX12_scene_90 : decode cX12_scene 90 = .ok (.aload_n 0, 1) := by decide +kernel
theorem dX12_scene_91 : decode cX12_scene 91 = .ok (.getfield 19, 3) := by decide +kernel
theorem dX12_scene_94 : decode cX12_scene 94 = .ok (.invokevirtual 42, 3) := by decide +kernel
theorem dX12_scene_97 : decode cX12_scene 97 = .ok (.iconst 1, 1) := by decide +kernel
theorem dX12_scene_98 : decode cX12_scene 98 = .ok (.isub, 1) := by decide +kernel
theorem dX12_scene_99 : decode cX12_scene 99 = .ok (.ireturn, 1) := by decide +kernel
theorem dX12_pause_0 : decode cX12_pause 0 = .ok (.aload_n 0, 1) := by decide +kernel
theorem dX12_pause_1 : decode cX12_pause 1 = .ok (.iconst 0, 1) := by decide +kernel
theorem dX12_pause_2 : decode cX12_pause 2 = .ok (.putfield 38, 3) := by decide +kernel
theorem dX12_pause_5 : decode cX12_pause 5 = .ok (.aload_n 0, 1) := by decide +kernel
theorem dX12_pause_6 : decode cX12_pause 6 = .ok (.iload_n 1, 1) := by decide +kernel
theorem dX12_pause_7 : decode cX12_pause 7 = .ok (.invokevirtual 93, 3) := by decide +kernel
theorem dX12_pause_10 : decode cX12_pause 10 = .ok (.ifCond .ne 9, 3) := by decide +kernel
theorem dX12_pause_13 : decode cX12_pause 13 = .ok (.aload_n 0, 1) := by decide +kernel
theorem dX12_pause_14 : decode cX12_pause 14 = .ok (.iconst 1, 1) := by decide +kernel
theorem dX12_pause_15 : decode cX12_pause 15 = .ok (.invokevirtual 50, 3) := by decide +kernel
theorem dX12_pause_18 : decode cX12_pause 18 = .ok (.ireturn, 1) := by decide +kernel
theorem dX12_pause_19 : decode cX12_pause 19 = .ok (.iload_n 2, 1) := by decide +kernel
theorem dX12_pause_20 : decode cX12_pause 20 = .ok (.iconst 0, 1) := by decide +kernel
theorem dX12_pause_21 : decode cX12_pause 21 = .ok (.bipush 9, 2) := by decide +kernel
theorem dX12_pause_23 : decode cX12_pause 23 = .ok (.invokestatic 46, 3) := by decide +kernel
theorem dX12_pause_26 : decode cX12_pause 26 = .ok (.ifCond .ne 9, 3) := by decide +kernel
theorem dX12_pause_29 : decode cX12_pause 29 = .ok (.aload_n 0, 1) := by decide +kernel
theorem dX12_pause_30 : decode cX12_pause 30 = .ok (.iconst 2, 1) := by decide +kernel
theorem dX12_pause_31 : decode cX12_pause 31 = .ok (.invokevirtual 50, 3) := by decide +kernel
theorem dX12_pause_34 : decode cX12_pause 34 = .ok (.ireturn, 1) := by decide +kernel
theorem dX12_pause_35 : decode cX12_pause 35 = .ok (.aload_n 0, 1) := by decide +kernel
theorem dX12_pause_36 : decode cX12_pause 36 = .ok (.getfield 19, 3) := by decide +kernel
theorem dX12_pause_39 : decode cX12_pause 39 = .ok (.iload_n 1, 1) := by decide +kernel
theorem dX12_pause_40 : decode cX12_pause 40 = .ok (.invokevirtual 97, 3) := by decide +kernel
theorem dX12_pause_43 : decode cX12_pause 43 = .ok (.checkcast 85, 3) := by decide +kernel
theorem dX12_pause_46 : decode cX12_pause 46 = .ok (.getfield 90, 3) := by decide +kernel
theorem dX12_pause_49 : decode cX12_pause 49 = .ok (.istore_n 3, 1) := by decide +kernel
theorem dX12_pause_50 : decode cX12_pause 50 = .ok (.aload_n 0, 1) := by decide +kernel
theorem dX12_pause_51 : decode cX12_pause 51 = .ok (.getfield 19, 3) := by decide +kernel
theorem dX12_pause_54 : decode cX12_pause 54 = .ok (.iload_n 1, 1) := by decide +kernel
theorem dX12_pause_55 : decode cX12_pause 55 = .ok (.invokevirtual 97, 3) := by decide +kernel
theorem dX12_pause_58 : decode cX12_pause 58 = .ok (.checkcast 85, 3) := by decide +kernel
theorem dX12_pause_61 : decode cX12_pause 61 = .ok (.iload_n 2, 1) := by decide +kernel
theorem dX12_pause_62 : decode cX12_pause 62 = .ok (.putfield 90, 3) := by decide +kernel
theorem dX12_pause_65 : decode cX12_pause 65 = .ok (.aload_n 0, 1) := by decide +kernel
theorem dX12_pause_66 : decode cX12_pause 66 = .ok (.iconst 0, 1) := by decide +kernel
theorem dX12_pause_67 : decode cX12_pause 67 = .ok (.putfield 70, 3) := by decide +kernel
theorem dX12_pause_70 : decode cX12_pause 70 = .ok (.iload_n 3, 1) := by decide +kernel
theorem dX12_pause_71 : decode cX12_pause 71 = .ok (.ireturn, 1) := by decide +kernel
theorem dX12_well_0 : decode cX12_well 0 = .ok (.iconst 0, 1) := by decide +kernel
theorem dX12_well_1 : decode cX12_well 1 = .ok (.istore_n 1, 1) := by decide +kernel
theorem dX12_well_2 : decode cX12_well 2 = .ok (.aload_n 0, 1) := by decide +kernel
theorem dX12_well_3 : decode cX12_well 3 = .ok (.getfield 16, 3) := by decide +kernel
theorem dX12_well_6 : decode cX12_well 6 = .ok (.invokevirtual 101, 3) := by decide +kernel
theorem dX12_well_9 : decode cX12_well 9 = .ok (.astore_n 2, 1) := by decide +kernel
theorem dX12_well_10 : decode cX12_well 10 = .ok (.aload_n 2, 1) := by decide +kernel
theorem dX12_well_11 : decode cX12_well 11 = .ok (.invokeinterface 105 1, 5) := by decide +kernel
theorem dX12_well_16 : decode cX12_well 16 = .ok (.ifCond .eq 31, 3) := by decide +kernel
theorem dX12_well_19 : decode cX12_well 19 = .ok (.aload_n 2, 1) := by decide +kernel
theorem dX12_well_20 : decode cX12_well 20 = .ok (.invokeinterface 111 1, 5) := by decide +kernel
theorem dX12_well_25 : decode cX12_well 25 = .ok (.checkcast 74, 3) := by decide +kernel
theorem dX12_well_28 : decode cX12_well 28 = .ok (.astore_n 3, 1) := by decide +kernel
theorem dX12_well_29 : decode cX12_well 29 = .ok (.iload_n 1, 1) := by decide +kernel
theorem dX12_well_30 : decode cX12_well 30 = .ok (.aload_n 3, 1) := by decide +kernel
theorem dX12_well_31 : decode cX12_well 31 = .ok (.getfield 115, 3) := by decide +kernel
theorem dX12_well_34 : decode cX12_well 34 = .ok (.ifCond .eq 7, 3) := by decide +kernel
theorem dX12_well_37 : decode cX12_well 37 = .ok (.iconst 0, 1) := by decide +kernel
theorem dX12_well_38 : decode cX12_well 38 = .ok (.goto 4, 3) := by decide +kernel
theorem dX12_well_41 : decode cX12_well 41 = .ok (.iconst 1, 1) := by decide +kernel
theorem dX12_well_42 : decode cX12_well 42 = .ok (.iadd, 1) := by decide +kernel
theorem dX12_well_43 : decode cX12_well 43 = .ok (.istore_n 1, 1) := by decide +kernel
theorem dX12_well_44 : decode cX12_well 44 = .ok (.goto (-34), 3) := by decide +kernel
theorem dX12_well_47 : decode cX12_well 47 = .ok (.iload_n 1, 1) := by decide +kernel
theorem dX12_well_48 : decode cX12_well 48 = .ok (.ireturn, 1) := by decide +kernel
theorem dX12_sick_0 : decode cX12_sick 0 = .ok (.aload_n 0, 1) := by decide +kernel
theorem dX12_sick_1 : decode cX12_sick 1 = .ok (.iconst 0, 1) := by decide +kernel
theorem dX12_sick_2 : decode cX12_sick 2 = .ok (.putfield 38, 3) := by decide +kernel
theorem dX12_sick_5 : decode cX12_sick 5 = .ok (.aload_n 0, 1) := by decide +kernel
theorem dX12_sick_6 : decode cX12_sick 6 = .ok (.iload_n 1, 1) := by decide +kernel
theorem dX12_sick_7 : decode cX12_sick 7 = .ok (.invokevirtual 118, 3) := by decide +kernel
theorem dX12_sick_10 : decode cX12_sick 10 = .ok (.ifCond .ne 9, 3) := by decide +kernel
theorem dX12_sick_13 : decode cX12_sick 13 = .ok (.aload_n 0, 1) := by decide +kernel
theorem dX12_sick_14 : decode cX12_sick 14 = .ok (.iconst 1, 1) := by decide +kernel
theorem dX12_sick_15 : decode cX12_sick 15 = .ok (.invokevirtual 50, 3) := by decide +kernel
theorem dX12_sick_18 : decode cX12_sick 18 = .ok (.ireturn, 1) := by decide +kernel
theorem dX12_sick_19 : decode cX12_sick 19 = .ok (.aload_n 0, 1) := by decide +kernel
theorem dX12_sick_20 : decode cX12_sick 20 = .ok (.getfield 16, 3) := by decide +kernel
theorem dX12_sick_23 : decode cX12_sick 23 = .ok (.iload_n 1, 1) := by decide +kernel
theorem dX12_sick_24 : decode cX12_sick 24 = .ok (.invokevirtual 97, 3) := by decide +kernel
theorem dX12_sick_27 : decode cX12_sick 27 = .ok (.checkcast 74, 3) := by decide +kernel
theorem dX12_sick_30 : decode cX12_sick 30 = .ok (.iload_n 2, 1) := by decide +kernel
theorem dX12_sick_31 : decode cX12_sick 31 = .ok (.putfield 115, 3) := by decide +kernel
theorem dX12_sick_34 : decode cX12_sick 34 = .ok (.aload_n 0, 1) := by decide +kernel
theorem dX12_sick_35 : decode cX12_sick 35 = .ok (.iconst 0, 1) := by decide +kernel
theorem dX12_sick_36 : decode cX12_sick 36 = .ok (.putfield 70, 3) := by decide +kernel
theorem dX12_sick_39 : decode cX12_sick 39 = .ok (.aload_n 0, 1) := by decide +kernel
theorem dX12_sick_40 : decode cX12_sick 40 = .ok (.invokevirtual 121, 3) := by decide +kernel
theorem dX12_sick_43 : decode cX12_sick 43 = .ok (.ireturn, 1) := by decide +kernel
theorem dX12_coat_0 : decode cX12_coat 0 = .ok (.aload_n 0, 1) := by decide +kernel
theorem dX12_coat_1 : decode cX12_coat 1 = .ok (.iconst 0, 1) := by decide +kernel
theorem dX12_coat_2 : decode cX12_coat 2 = .ok (.putfield 38, 3) := by decide +kernel
theorem dX12_coat_5 : decode cX12_coat 5 = .ok (.iload_n 1, 1) := by decide +kernel
theorem dX12_coat_6 : decode cX12_coat 6 = .ok (.iconst 0, 1) := by decide +kernel
theorem dX12_coat_7 : decode cX12_coat 7 = .ok (.iconst 3, 1) := by decide +kernel
theorem dX12_coat_8 : decode cX12_coat 8 = .ok (.invokestatic 46, 3) := by decide +kernel
theorem dX12_coat_11 : decode cX12_coat 11 = .ok (.ifCond .eq 23, 3) := by decide +kernel
theorem dX12_coat_14 : decode cX12_coat 14 = .ok (.iload_n 2, 1) := by decide +kernel
theorem dX12_coat_15 : decode cX12_coat 15 = .ok (.iconst 1, 1) := by decide +kernel
theorem dX12_coat_16 : decode cX12_coat 16 = .ok (.bipush 9, 2) := by decide +kernel
theorem dX12_coat_18 : decode cX12_coat 18 = .ok (.invokestatic 46, 3) := by decide +kernel
theorem dX12_coat_21 : decode cX12_coat 21 = .ok (.ifCond .eq 13, 3) := by decide +kernel
theorem dX12_coat_24 : decode cX12_coat 24 = .ok (.iload_n 3, 1) := by decide +kernel
theorem dX12_coat_25 : decode cX12_coat 25 = .ok (.iconst 1, 1) := by decide +kernel
theorem dX12_coat_26 : decode cX12_coat 26 = .ok (.bipush 99, 2) := by decide +kernel
theorem dX12_coat_28 : decode cX12_coat 28 = .ok (.invokestatic 46, 3) := by decide +kernel
theorem dX12_coat_31 : decode cX12_coat 31 = .ok (.ifCond .ne 9, 3) := by decide +kernel
theorem dX12_coat_34 : decode cX12_coat 34 = .ok (.aload_n 0, 1) := by decide +kernel
theorem dX12_coat_35 : decode cX12_coat 35 = .ok (.iconst 1, 1) := by decide +kernel
theorem dX12_coat_36 : decode cX12_coat 36 = .ok (.invokevirtual 50, 3) := by decide +kernel
theorem dX12_coat_39 : decode cX12_coat 39 = .ok (.ireturn, 1) := by decide +kernel
theorem dX12_coat_40 : decode cX12_coat 40 = .ok (.aload_n 0, 1) := by decide +kernel
theorem dX12_coat_41 : decode cX12_coat 41 = .ok (.getfield 22, 3) := by decide +kernel
theorem dX12_coat_44 : decode cX12_coat 44 = .ok (.invokevirtual 42, 3) := by decide +kernel
theorem dX12_coat_47 : decode cX12_coat 47 = .ok (.bipush 6, 2) := by decide +kernel
theorem dX12_coat_49 : decode cX12_coat 49 = .ok (.if_icmp .ne 9, 3) := by decide +kernel
theorem dX12_coat_52 : decode cX12_coat 52 = .ok (.aload_n 0, 1) := by decide +kernel
theorem dX12_coat_53 : decode cX12_coat 53 = .ok (.iconst 2, 1) := by decide +kernel
theorem dX12_coat_54 : decode cX12_coat 54 = .ok (.invokevirtual 50, 3) := by decide +kernel
theorem dX12_coat_57 : decode cX12_coat 57 = .ok (.ireturn, 1) := by decide +kernel
theorem dX12_coat_58 : decode cX12_coat 58 = .ok (.new 124, 3) := by decide +kernel
theorem dX12_coat_61 : decode cX12_coat 61 = .ok (.dup, 1) := by decide +kernel
theorem dX12_coat_62 : decode cX12_coat 62 = .ok (.invokespecial 126, 3) := by decide +kernel
theorem dX12_coat_65 : decode cX12_coat 65 = .ok (.astore 4, 2) := by decide +kernel
theorem dX12_coat_67 : decode cX12_coat 67 = .ok (.aload 4, 2) := by decide +kernel
theorem dX12_coat_69 : decode cX12_coat 69 = .ok (.iload_n 1, 1) := by decide +kernel
theorem dX12_coat_70 : decode cX12_coat 70 = .ok (.putfield 127, 3) := by decide +kernel
theorem dX12_coat_73 : decode cX12_coat 73 = .ok (.aload 4, 2) := by decide +kernel
theorem dX12_coat_75 : decode cX12_coat 75 = .ok (.iload_n 2, 1) := by decide +kernel
theorem dX12_coat_76 : decode cX12_coat 76 = .ok (.putfield 128, 3) := by decide +kernel
theorem dX12_coat_79 : decode cX12_coat 79 = .ok (.aload 4, 2) := by decide +kernel
theorem dX12_coat_81 : decode cX12_coat 81 = .ok (.iload_n 3, 1) := by decide +kernel
theorem dX12_coat_82 : decode cX12_coat 82 = .ok (.putfield 129, 3) := by decide +kernel
theorem dX12_coat_85 : decode cX12_coat 85 = .ok (.aload_n 0, 1) := by decide +kernel
theorem dX12_coat_86 : decode cX12_coat 86 = .ok (.getfield 22, 3) := by decide +kernel
theorem dX12_coat_89 : decode cX12_coat 89 = .ok (.aload 4, 2) := by decide +kernel
theorem dX12_coat_91 : decode cX12_coat 91 = .ok (.invokevirtual 66, 3) := by decide +kernel
theorem dX12_coat_94 : decode cX12_coat 94 = .ok (.pop, 1) := by decide +kernel
theorem dX12_coat_95 : decode cX12_coat 95 = .ok (.aload_n 0, 1) := by decide +kernel
theorem dX12_coat_96 : decode cX12_coat 96 = .ok (.getfield 22, 3) := by decide +kernel
theorem dX12_coat_99 : decode cX12_coat 99 = .ok (.invokevirtual 42, 3) := by decide +kernel
theorem dX12_coat_102 : decode cX12_coat 102 = .ok (.iconst 1, 1) := by decide +kernel
theorem dX12_coat_103 : decode cX12_coat 103 = .ok (.isub, 1) := by decide +kernel
theorem dX12_coat_104 : decode cX12_coat 104 = .ok (.ireturn, 1) := by decide +kernel
theorem dX12_pawn_0 : decode cX12_pawn 0 = .ok (.aload_n 0, 1) := by decide +kernel
theorem dX12_pawn_1 : decode cX12_pawn 1 = .ok (.iconst 0, 1) := by decide +kernel
theorem dX12_pawn_2 : decode cX12_pawn 2 = .ok (.putfield 38, 3) := by decide +kernel
theorem dX12_pawn_5 : decode cX12_pawn 5 = .ok (.aload_n 0, 1) := by decide +kernel
theorem dX12_pawn_6 : decode cX12_pawn 6 = .ok (.iload_n 1, 1) := by decide +kernel
theorem dX12_pawn_7 : decode cX12_pawn 7 = .ok (.invokevirtual 132, 3) := by decide +kernel
theorem dX12_pawn_10 : decode cX12_pawn 10 = .ok (.ifCond .eq 11, 3) := by decide +kernel
theorem dX12_pawn_13 : decode cX12_pawn 13 = .ok (.aload_n 0, 1) := by decide +kernel
theorem dX12_pawn_14 : decode cX12_pawn 14 = .ok (.iload_n 2, 1) := by decide +kernel
theorem dX12_pawn_15 : decode cX12_pawn 15 = .ok (.invokevirtual 118, 3) := by decide +kernel
theorem dX12_pawn_18 : decode cX12_pawn 18 = .ok (.ifCond .ne 9, 3) := by decide +kernel
theorem dX12_pawn_21 : decode cX12_pawn 21 = .ok (.aload_n 0, 1) := by decide +kernel
theorem dX12_pawn_22 : decode cX12_pawn 22 = .ok (.iconst 1, 1) := by decide +kernel
theorem dX12_pawn_23 : decode cX12_pawn 23 = .ok (.invokevirtual 50, 3) := by decide +kernel
theorem dX12_pawn_26 : decode cX12_pawn 26 = .ok (.ireturn, 1) := by decide +kernel
theorem dX12_pawn_27 : decode cX12_pawn 27 = .ok (.aload_n 0, 1) := by decide +kernel
theorem dX12_pawn_28 : decode cX12_pawn 28 = .ok (.getfield 22, 3) := by decide +kernel
theorem dX12_pawn_31 : decode cX12_pawn 31 = .ok (.iload_n 1, 1) := by decide +kernel
theorem dX12_pawn_32 : decode cX12_pawn 32 = .ok (.invokevirtual 97, 3) := by decide +kernel
theorem dX12_pawn_35 : decode cX12_pawn 35 = .ok (.checkcast 124, 3) := by decide +kernel
theorem dX12_pawn_38 : decode cX12_pawn 38 = .ok (.astore_n 3, 1) := by decide +kernel
theorem dX12_pawn_39 : decode cX12_pawn 39 = .ok (.aload_n 3, 1) := by decide +kernel
theorem dX12_pawn_40 : decode cX12_pawn 40 = .ok (.getfield 135, 3) := by decide +kernel
theorem dX12_pawn_43 : decode cX12_pawn 43 = .ok (.ifCond .eq 9, 3) := by decide +kernel
theorem dX12_pawn_46 : decode cX12_pawn 46 = .ok (.aload_n 0, 1) := by decide +kernel
theorem dX12_pawn_47 : decode cX12_pawn 47 = .ok (.iconst 2, 1) := by decide +kernel
theorem dX12_pawn_48 : decode cX12_pawn 48 = .ok (.invokevirtual 50, 3) := by decide +kernel
theorem dX12_pawn_51 : decode cX12_pawn 51 = .ok (.ireturn, 1) := by decide +kernel
theorem dX12_pawn_52 : decode cX12_pawn 52 = .ok (.aload_n 3, 1) := by decide +kernel
theorem dX12_pawn_53 : decode cX12_pawn 53 = .ok (.iconst 1, 1) := by decide +kernel
theorem dX12_pawn_54 : decode cX12_pawn 54 = .ok (.putfield 135, 3) := by decide +kernel
theorem dX12_pawn_57 : decode cX12_pawn 57 = .ok (.aload_n 0, 1) := by decide +kernel
theorem dX12_pawn_58 : decode cX12_pawn 58 = .ok (.dup, 1) := by decide +kernel
theorem dX12_pawn_59 : decode cX12_pawn 59 = .ok (.getfield 138, 3) := by decide +kernel
theorem dX12_pawn_62 : decode cX12_pawn 62 = .ok (.aload_n 3, 1) := by decide +kernel
theorem dX12_pawn_63 : decode cX12_pawn 63 = .ok (.getfield 129, 3) := by decide +kernel
theorem dX12_pawn_66 : decode cX12_pawn 66 = .ok (.iadd, 1) := by decide +kernel
theorem dX12_pawn_67 : decode cX12_pawn 67 = .ok (.putfield 138, 3) := by decide +kernel
theorem dX12_pawn_70 : decode cX12_pawn 70 = .ok (.aload_n 0, 1) := by decide +kernel
theorem dX12_pawn_71 : decode cX12_pawn 71 = .ok (.getfield 16, 3) := by decide +kernel
theorem dX12_pawn_74 : decode cX12_pawn 74 = .ok (.iload_n 2, 1) := by decide +kernel
theorem dX12_pawn_75 : decode cX12_pawn 75 = .ok (.invokevirtual 97, 3) := by decide +kernel
theorem dX12_pawn_78 : decode cX12_pawn 78 = .ok (.checkcast 74, 3) := by decide +kernel
theorem dX12_pawn_81 : decode cX12_pawn 81 = .ok (.dup, 1) := by decide +kernel
theorem dX12_pawn_82 : decode cX12_pawn 82 = .ok (.getfield 141, 3) := by decide +kernel
theorem dX12_pawn_85 : decode cX12_pawn 85 = .ok (.aload_n 3, 1) := by decide +kernel
theorem dX12_pawn_86 : decode cX12_pawn 86 = .ok (.getfield 129, 3) := by decide +kernel
theorem dX12_pawn_89 : decode cX12_pawn 89 = .ok (.iadd, 1) := by decide +kernel
theorem dX12_pawn_90 : decode cX12_pawn 90 = .ok (.putfield 141, 3) := by decide +kernel
theorem dX12_pawn_93 : decode cX12_pawn 93 = .ok (.aload_n 0, 1) := by decide +kernel
theorem dX12_pawn_94 : decode cX12_pawn 94 = .ok (.getfield 16, 3) := by decide +kernel
theorem dX12_pawn_97 : decode cX12_pawn 97 = .ok (.iload_n 2, 1) := by decide +kernel
theorem dX12_pawn_98 : decode cX12_pawn 98 = .ok (.invokevirtual 97, 3) := by decide +kernel
theorem dX12_pawn_101 : decode cX12_pawn 101 = .ok (.checkcast 74, 3) := by decide +kernel
theorem dX12_pawn_104 : decode cX12_pawn 104 = .ok (.getfield 141, 3) := by decide +kernel
theorem dX12_pawn_107 : decode cX12_pawn 107 = .ok (.ireturn, 1) := by decide +kernel
theorem dX12_redeem_0 : decode cX12_redeem 0 = .ok (.aload_n 0, 1) := by decide +kernel
theorem dX12_redeem_1 : decode cX12_redeem 1 = .ok (.iconst 0, 1) := by decide +kernel
theorem dX12_redeem_2 : decode cX12_redeem 2 = .ok (.putfield 38, 3) := by decide +kernel
theorem dX12_redeem_5 : decode cX12_redeem 5 = .ok (.aload_n 0, 1) := by decide +kernel
theorem dX12_redeem_6 : decode cX12_redeem 6 = .ok (.iload_n 1, 1) := by decide +kernel
theorem dX12_redeem_7 : decode cX12_redeem 7 = .ok (.invokevirtual 132, 3) := by decide +kernel
theorem dX12_redeem_10 : decode cX12_redeem 10 = .ok (.ifCond .eq 11, 3) := by decide +kernel
theorem dX12_redeem_13 : decode cX12_redeem 13 = .ok (.aload_n 0, 1) := by decide +kernel
theorem dX12_redeem_14 : decode cX12_redeem 14 = .ok (.iload_n 2, 1) := by decide +kernel
theorem dX12_redeem_15 : decode cX12_redeem 15 = .ok (.invokevirtual 118, 3) := by decide +kernel
theorem dX12_redeem_18 : decode cX12_redeem 18 = .ok (.ifCond .ne 9, 3) := by decide +kernel
theorem dX12_redeem_21 : decode cX12_redeem 21 = .ok (.aload_n 0, 1) := by decide +kernel
theorem dX12_redeem_22 : decode cX12_redeem 22 = .ok (.iconst 1, 1) := by decide +kernel
theorem dX12_redeem_23 : decode cX12_redeem 23 = .ok (.invokevirtual 50, 3) := by decide +kernel
theorem dX12_redeem_26 : decode cX12_redeem 26 = .ok (.ireturn, 1) := by decide +kernel
theorem dX12_redeem_27 : decode cX12_redeem 27 = .ok (.aload_n 0, 1) := by decide +kernel
theorem dX12_redeem_28 : decode cX12_redeem 28 = .ok (.getfield 22, 3) := by decide +kernel
theorem dX12_redeem_31 : decode cX12_redeem 31 = .ok (.iload_n 1, 1) := by decide +kernel
theorem dX12_redeem_32 : decode cX12_redeem 32 = .ok (.invokevirtual 97, 3) := by decide +kernel
theorem dX12_redeem_35 : decode cX12_redeem 35 = .ok (.checkcast 124, 3) := by decide +kernel
theorem dX12_redeem_38 : decode cX12_redeem 38 = .ok (.astore_n 3, 1) := by decide +kernel
theorem dX12_redeem_39 : decode cX12_redeem 39 = .ok (.aload_n 3, 1) := by decide +kernel
theorem dX12_redeem_40 : decode cX12_redeem 40 = .ok (.getfield 129, 3) := by decide +kernel
theorem dX12_redeem_43 : decode cX12_redeem 43 = .ok (.aload_n 3, 1) := by decide +kernel
theorem dX12_redeem_44 : decode cX12_redeem 44 = .ok (.getfield 129, 3) := by decide +kernel
theorem dX12_redeem_47 : decode cX12_redeem 47 = .ok (.bipush 10, 2) := by decide +kernel
theorem dX12_redeem_49 : decode cX12_redeem 49 = .ok (.idiv, 1) := by decide +kernel
theorem dX12_redeem_50 : decode cX12_redeem 50 = .ok (.iadd, 1) := by decide +kernel
theorem dX12_redeem_51 : decode cX12_redeem 51 = .ok (.istore 4, 2) := by decide +kernel
theorem dX12_redeem_53 : decode cX12_redeem 53 = .ok (.aload_n 3, 1) := by decide +kernel
theorem dX12_redeem_54 : decode cX12_redeem 54 = .ok (.getfield 135, 3) := by decide +kernel
theorem dX12_redeem_57 : decode cX12_redeem 57 = .ok (.ifCond .eq 22, 3) := by decide +kernel
theorem dX12_redeem_60 : decode cX12_redeem 60 = .ok (.aload_n 0, 1) := by decide +kernel
theorem dX12_redeem_61 : decode cX12_redeem 61 = .ok (.getfield 16, 3) := by decide +kernel
theorem dX12_redeem_64 : decode cX12_redeem 64 = .ok (.iload_n 2, 1) := by decide +kernel
theorem dX12_redeem_65 : decode cX12_redeem 65 = .ok (.invokevirtual 97, 3) := by decide +kernel
theorem dX12_redeem_68 : decode cX12_redeem 68 = .ok (.checkcast 74, 3) := by decide +kernel
theorem dX12_redeem_71 : decode cX12_redeem 71 = .ok (.getfield 141, 3) := by decide +kernel
theorem dX12_redeem_74 : decode cX12_redeem 74 = .ok (.iload 4, 2) := by decide +kernel
theorem dX12_redeem_76 : decode cX12_redeem 76 = .ok (.if_icmp .ge 9, 3) := by decide +kernel
theorem dX12_redeem_79 : decode cX12_redeem 79 = .ok (.aload_n 0, 1) := by decide +kernel
theorem dX12_redeem_80 : decode cX12_redeem 80 = .ok (.iconst 2, 1) := by decide +kernel
theorem dX12_redeem_81 : decode cX12_redeem 81 = .ok (.invokevirtual 50, 3) := by decide +kernel
theorem dX12_redeem_84 : decode cX12_redeem 84 = .ok (.ireturn, 1) := by decide +kernel
theorem dX12_redeem_85 : decode cX12_redeem 85 = .ok (.aload_n 3, 1) := by decide +kernel
theorem dX12_redeem_86 : decode cX12_redeem 86 = .ok (.iconst 0, 1) := by decide +kernel
theorem dX12_redeem_87 : decode cX12_redeem 87 = .ok (.putfield 135, 3) := by decide +kernel
theorem dX12_redeem_90 : decode cX12_redeem 90 = .ok (.aload_n 0, 1) := by decide +kernel
theorem dX12_redeem_91 : decode cX12_redeem 91 = .ok (.dup, 1) := by decide +kernel
theorem dX12_redeem_92 : decode cX12_redeem 92 = .ok (.getfield 144, 3) := by decide +kernel
theorem dX12_redeem_95 : decode cX12_redeem 95 = .ok (.iload 4, 2) := by decide +kernel
theorem dX12_redeem_97 : decode cX12_redeem 97 = .ok (.iadd, 1) := by decide +kernel
theorem dX12_redeem_98 : decode cX12_redeem 98 = .ok (.putfield 144, 3) := by decide +kernel
theorem dX12_redeem_101 : decode cX12_redeem 101 = .ok (.aload_n 0, 1) := by decide +kernel
theorem dX12_redeem_102 : decode cX12_redeem 102 = .ok (.getfield 16, 3) := by decide +kernel
theorem dX12_redeem_105 : decode cX12_redeem 105 = .ok (.iload_n 2, 1) := by decide +kernel
theorem dX12_redeem_106 : decode cX12_redeem 106 = .ok (.invokevirtual 97, 3) := by decide +kernel
theorem dX12_redeem_109 : decode cX12_redeem 109 = .ok (.checkcast 74, 3) := by decide +kernel
theorem dX12_redeem_112 : decode cX12_redeem 112 = .ok (.dup, 1) := by decide +kernel
theorem dX12_redeem_113 : decode cX12_redeem 113 = .ok (.getfield 141, 3) := by decide +kernel
theorem dX12_redeem_116 : decode cX12_redeem 116 = .ok (.iload 4, 2) := by decide +kernel
theorem dX12_redeem_118 : decode cX12_redeem 118 = .ok (.isub, 1) := by decide +kernel
theorem dX12_redeem_119 : decode cX12_redeem 119 = .ok (.putfield 141, 3) := by decide +kernel
theorem dX12_redeem_122 : decode cX12_redeem 122 = .ok (.aload_n 0, 1) := by decide +kernel
theorem dX12_redeem_123 : decode cX12_redeem 123 = .ok (.getfield 16, 3) := by decide +kernel
theorem dX12_redeem_126 : decode cX12_redeem 126 = .ok (.iload_n 2, 1) := by decide +kernel
theorem dX12_redeem_127 : decode cX12_redeem 127 = .ok (.invokevirtual 97, 3) := by decide +kernel
theorem dX12_redeem_130 : decode cX12_redeem 130 = .ok (.checkcast 74, 3) := by decide +kernel
theorem dX12_redeem_133 : decode cX12_redeem 133 = .ok (.getfield 141, 3) := by decide +kernel
theorem dX12_redeem_136 : decode cX12_redeem 136 = .ok (.ireturn, 1) := by decide +kernel
theorem dX12_town_0 : decode cX12_town 0 = .ok (.aload_n 0, 1) := by decide +kernel
theorem dX12_town_1 : decode cX12_town 1 = .ok (.iconst 0, 1) := by decide +kernel
theorem dX12_town_2 : decode cX12_town 2 = .ok (.putfield 38, 3) := by decide +kernel
theorem dX12_town_5 : decode cX12_town 5 = .ok (.iload_n 1, 1) := by decide +kernel
theorem dX12_town_6 : decode cX12_town 6 = .ok (.iconst 0, 1) := by decide +kernel
theorem dX12_town_7 : decode cX12_town 7 = .ok (.bipush 99, 2) := by decide +kernel
theorem dX12_town_9 : decode cX12_town 9 = .ok (.invokestatic 46, 3) := by decide +kernel
theorem dX12_town_12 : decode cX12_town 12 = .ok (.ifCond .eq 24, 3) := by decide +kernel
theorem dX12_town_15 : decode cX12_town 15 = .ok (.iload_n 2, 1) := by decide +kernel
theorem dX12_town_16 : decode cX12_town 16 = .ok (.iconst 0, 1) := by decide +kernel
theorem dX12_town_17 : decode cX12_town 17 = .ok (.bipush 99, 2) := by decide +kernel
theorem dX12_town_19 : decode cX12_town 19 = .ok (.invokestatic 46, 3) := by decide +kernel
theorem dX12_town_22 : decode cX12_town 22 = .ok (.ifCond .eq 14, 3) := by decide +kernel
theorem dX12_town_25 : decode cX12_town 25 = .ok (.iload_n 3, 1) := by decide +kernel
theorem dX12_town_26 : decode cX12_town 26 = .ok (.iconst 0, 1) := by decide +kernel
theorem dX12_town_27 : decode cX12_town 27 = .ok (.sipush 999, 3) := by decide +kernel
theorem dX12_town_30 : decode cX12_town 30 = .ok (.invokestatic 46, 3) := by decide +kernel
theorem dX12_town_33 : decode cX12_town 33 = .ok (.ifCond .ne 9, 3) := by decide +kernel
theorem dX12_town_36 : decode cX12_town 36 = .ok (.aload_n 0, 1) := by decide +kernel
theorem dX12_town_37 : decode cX12_town 37 = .ok (.iconst 1, 1) := by decide +kernel
theorem dX12_town_38 : decode cX12_town 38 = .ok (.invokevirtual 50, 3) := by decide +kernel
theorem dX12_town_41 : decode cX12_town 41 = .ok (.ireturn, 1) := by decide +kernel
theorem dX12_town_42 : decode cX12_town 42 = .ok (.aload_n 0, 1) := by decide +kernel
theorem dX12_town_43 : decode cX12_town 43 = .ok (.getfield 25, 3) := by decide +kernel
theorem dX12_town_46 : decode cX12_town 46 = .ok (.invokevirtual 42, 3) := by decide +kernel
theorem dX12_town_49 : decode cX12_town 49 = .ok (.iconst 5, 1) := by decide +kernel
theorem dX12_town_50 : decode cX12_town 50 = .ok (.if_icmp .ne 9, 3) := by decide +kernel
theorem dX12_town_53 : decode cX12_town 53 = .ok (.aload_n 0, 1) := by decide +kernel
theorem dX12_town_54 : decode cX12_town 54 = .ok (.iconst 2, 1) := by decide +kernel
theorem dX12_town_55 : decode cX12_town 55 = .ok (.invokevirtual 50, 3) := by decide +kernel
theorem dX12_town_58 : decode cX12_town 58 = .ok (.ireturn, 1) := by decide +kernel
theorem dX12_town_59 : decode cX12_town 59 = .ok (.new 147, 3) := by decide +kernel
theorem dX12_town_62 : decode cX12_town 62 = .ok (.dup, 1) := by decide +kernel
theorem dX12_town_63 : decode cX12_town 63 = .ok (.invokespecial 149, 3) := by decide +kernel
theorem dX12_town_66 : decode cX12_town 66 = .ok (.astore 4, 2) := by decide +kernel
theorem dX12_town_68 : decode cX12_town 68 = .ok (.aload 4, 2) := by decide +kernel
theorem dX12_town_70 : decode cX12_town 70 = .ok (.iload_n 1, 1) := by decide +kernel
theorem dX12_town_71 : decode cX12_town 71 = .ok (.putfield 150, 3) := by decide +kernel
theorem dX12_town_74 : decode cX12_town 74 = .ok (.aload 4, 2) := by decide +kernel
theorem dX12_town_76 : decode cX12_town 76 = .ok (.iload_n 2, 1) := by decide +kernel
theorem dX12_town_77 : decode cX12_town 77 = .ok (.putfield 153, 3) := by decide +kernel
theorem dX12_town_80 : decode cX12_town 80 = .ok (.aload 4, 2) := by decide +kernel
theorem dX12_town_82 : decode cX12_town 82 = .ok (.iload_n 3, 1) := by decide +kernel
theorem dX12_town_83 : decode cX12_town 83 = .ok (.putfield 156, 3) := by decide +kernel
theorem dX12_town_86 : decode cX12_town 86 = .ok (.aload_n 0, 1) := by decide +kernel
theorem dX12_town_87 : decode cX12_town 87 = .ok (.getfield 25, 3) := by decide +kernel
theorem dX12_town_90 : decode cX12_town 90 = .ok (.aload 4, 2) := by decide +kernel
theorem dX12_town_92 : decode cX12_town 92 = .ok (.invokevirtual 66, 3) := by decide +kernel
theorem dX12_town_95 : decode cX12_town 95 = .ok (.pop, 1) := by decide +kernel
theorem dX12_town_96 : decode cX12_town 96 = .ok (.aload_n 0, 1) := by decide +kernel
theorem dX12_town_97 : decode cX12_town 97 = .ok (.getfield 25, 3) := by decide +kernel
theorem dX12_town_100 : decode cX12_town 100 = .ok (.invokevirtual 42, 3) := by decide +kernel
theorem dX12_town_103 : decode cX12_town 103 = .ok (.iconst 1, 1) := by decide +kernel
theorem dX12_town_104 : decode cX12_town 104 = .ok (.isub, 1) := by decide +kernel
theorem dX12_town_105 : decode cX12_town 105 = .ok (.ireturn, 1) := by decide +kernel
theorem dX12_plays_0 : decode cX12_plays 0 = .ok (.aload_n 0, 1) := by decide +kernel
theorem dX12_plays_1 : decode cX12_plays 1 = .ok (.getfield 16, 3) := by decide +kernel
theorem dX12_plays_4 : decode cX12_plays 4 = .ok (.iload_n 1, 1) := by decide +kernel
theorem dX12_plays_5 : decode cX12_plays 5 = .ok (.invokevirtual 97, 3) := by decide +kernel
theorem dX12_plays_8 : decode cX12_plays 8 = .ok (.checkcast 74, 3) := by decide +kernel
theorem dX12_plays_11 : decode cX12_plays 11 = .ok (.getfield 115, 3) := by decide +kernel
theorem dX12_plays_14 : decode cX12_plays 14 = .ok (.ifCond .ne 41, 3) := by decide +kernel
theorem dX12_plays_17 : decode cX12_plays 17 = .ok (.aload_n 0, 1) := by decide +kernel
theorem dX12_plays_18 : decode cX12_plays 18 = .ok (.getfield 16, 3) := by decide +kernel
theorem dX12_plays_21 : decode cX12_plays 21 = .ok (.iload_n 1, 1) := by decide +kernel
theorem dX12_plays_22 : decode cX12_plays 22 = .ok (.invokevirtual 97, 3) := by decide +kernel
theorem dX12_plays_25 : decode cX12_plays 25 = .ok (.checkcast 74, 3) := by decide +kernel
theorem dX12_plays_28 : decode cX12_plays 28 = .ok (.getfield 77, 3) := by decide +kernel
theorem dX12_plays_31 : decode cX12_plays 31 = .ok (.aload_n 0, 1) := by decide +kernel
theorem dX12_plays_32 : decode cX12_plays 32 = .ok (.getfield 10, 3) := by decide +kernel
theorem dX12_plays_35 : decode cX12_plays 35 = .ok (.iload_n 2, 1) := by decide +kernel
theorem dX12_plays_36 : decode cX12_plays 36 = .ok (.invokevirtual 97, 3) := by decide +kernel
theorem dX12_plays_39 : decode cX12_plays 39 = .ok (.checkcast 54, 3) := by decide +kernel
theorem dX12_plays_42 : decode cX12_plays 42 = .ok (.getfield 57, 3) := by decide +kernel
theorem dX12_plays_45 : decode cX12_plays 45 = .ok (.invokestatic 159, 3) := by decide +kernel
theorem dX12_plays_48 : decode cX12_plays 48 = .ok (.ifCond .eq 7, 3) := by decide +kernel
theorem dX12_plays_51 : decode cX12_plays 51 = .ok (.iconst 1, 1) := by decide +kernel
theorem dX12_plays_52 : decode cX12_plays 52 = .ok (.goto 4, 3) := by decide +kernel
theorem dX12_plays_55 : decode cX12_plays 55 = .ok (.iconst 0, 1) := by decide +kernel
theorem dX12_plays_56 : decode cX12_plays 56 = .ok (.ireturn, 1) := by decide +kernel
theorem dX12_players_0 : decode cX12_players 0 = .ok (.iconst 0, 1) := by decide +kernel
theorem dX12_players_1 : decode cX12_players 1 = .ok (.istore_n 2, 1) := by decide +kernel
theorem dX12_players_2 : decode cX12_players 2 = .ok (.iconst 0, 1) := by decide +kernel
theorem dX12_players_3 : decode cX12_players 3 = .ok (.istore_n 3, 1) := by decide +kernel
theorem dX12_players_4 : decode cX12_players 4 = .ok (.iload_n 3, 1) := by decide +kernel
theorem dX12_players_5 : decode cX12_players 5 = .ok (.aload_n 0, 1) := by decide +kernel
theorem dX12_players_6 : decode cX12_players 6 = .ok (.getfield 16, 3) := by decide +kernel
theorem dX12_players_9 : decode cX12_players 9 = .ok (.invokevirtual 42, 3) := by decide +kernel
theorem dX12_players_12 : decode cX12_players 12 = .ok (.if_icmp .ge 28, 3) := by decide +kernel
theorem dX12_players_15 : decode cX12_players 15 = .ok (.iload_n 2, 1) := by decide +kernel
theorem dX12_players_16 : decode cX12_players 16 = .ok (.aload_n 0, 1) := by decide +kernel
theorem dX12_players_17 : decode cX12_players 17 = .ok (.iload_n 3, 1) := by decide +kernel
theorem dX12_players_18 : decode cX12_players 18 = .ok (.iload_n 1, 1) := by decide +kernel
theorem dX12_players_19 : decode cX12_players 19 = .ok (.invokevirtual 163, 3) := by decide +kernel
theorem dX12_players_22 : decode cX12_players 22 = .ok (.ifCond .eq 9, 3) := by decide +kernel
theorem dX12_players_25 : decode cX12_players 25 = .ok (.iconst 1, 1) := by decide +kernel
theorem dX12_players_26 : decode cX12_players 26 = .ok (.iload_n 3, 1) := by decide +kernel
theorem dX12_players_27 : decode cX12_players 27 = .ok (.ishl, 1) := by decide +kernel
theorem dX12_players_28 : decode cX12_players 28 = .ok (.goto 4, 3) := by decide +kernel
theorem dX12_players_31 : decode cX12_players 31 = .ok (.iconst 0, 1) := by decide +kernel
theorem dX12_players_32 : decode cX12_players 32 = .ok (.ior, 1) := by decide +kernel
theorem dX12_players_33 : decode cX12_players 33 = .ok (.istore_n 2, 1) := by decide +kernel
theorem dX12_players_34 : decode cX12_players 34 = .ok (.iinc 3 1, 3) := by decide +kernel
theorem dX12_players_37 : decode cX12_players 37 = .ok (.goto (-33), 3) := by decide +kernel
theorem dX12_players_40 : decode cX12_players 40 = .ok (.iload_n 2, 1) := by decide +kernel
theorem dX12_players_41 : decode cX12_players 41 = .ok (.ireturn, 1) := by decide +kernel
theorem dX12_clash_0 : decode cX12_clash 0 = .ok (.iconst 0, 1) := by decide +kernel
theorem dX12_clash_1 : decode cX12_clash 1 = .ok (.istore_n 2, 1) := by decide +kernel
theorem dX12_clash_2 : decode cX12_clash 2 = .ok (.iload_n 2, 1) := by decide +kernel
theorem dX12_clash_3 : decode cX12_clash 3 = .ok (.bipush 7, 2) := by decide +kernel
theorem dX12_clash_5 : decode cX12_clash 5 = .ok (.if_icmp .ge 16, 3) := by decide +kernel
theorem dX12_clash_8 : decode cX12_clash 8 = .ok (.aload_n 0, 1) := by decide +kernel
theorem dX12_clash_9 : decode cX12_clash 9 = .ok (.getfield 35, 3) := by decide +kernel
theorem dX12_clash_12 : decode cX12_clash 12 = .ok (.iload_n 2, 1) := by decide +kernel
theorem dX12_clash_13 : decode cX12_clash 13 = .ok (.iconst 0, 1) := by decide +kernel
theorem dX12_clash_14 : decode cX12_clash 14 = .ok (.iastore, 1) := by decide +kernel
theorem dX12_clash_15 : decode cX12_clash 15 = .ok (.iinc 2 1, 3) := by decide +kernel
theorem dX12_clash_18 : decode cX12_clash 18 = .ok (.goto (-16), 3) := by decide +kernel
theorem dX12_clash_21 : decode cX12_clash 21 = .ok (.iconst (-1), 1) := by decide +kernel
theorem dX12_clash_22 : decode cX12_clash 22 = .ok (.istore_n 2, 1) := by decide +kernel
theorem dX12_clash_23 : decode cX12_clash 23 = .ok (.iconst 0, 1) := by decide +kernel
theorem dX12_clash_24 : decode cX12_clash 24 = .ok (.istore_n 3, 1) := by decide +kernel
theorem dX12_clash_25 : decode cX12_clash 25 = .ok (.iload_n 3, 1) := by decide +kernel
theorem dX12_clash_26 : decode cX12_clash 26 = .ok (.aload_n 0, 1) := by decide +kernel
theorem dX12_clash_27 : decode cX12_clash 27 = .ok (.getfield 19, 3) := by decide +kernel
theorem dX12_clash_30 : decode cX12_clash 30 = .ok (.invokevirtual 42, 3) := by decide +kernel
theorem dX12_clash_33 : decode cX12_clash 33 = .ok (.if_icmp .ge 275, 3) := by decide +kernel
theorem dX12_clash_36 : decode cX12_clash 36 = .ok (.iload_n 1, 1) := by decide +kernel
theorem dX12_clash_37 : decode cX12_clash 37 = .ok (.iload_n 3, 1) := by decide +kernel
theorem dX12_clash_38 : decode cX12_clash 38 = .ok (.invokestatic 159, 3) := by decide +kernel
theorem dX12_clash_41 : decode cX12_clash 41 = .ok (.ifCond .ne 6, 3) := by decide +kernel
theorem dX12_clash_44 : decode cX12_clash 44 = .ok (.goto 258, 3) := by decide +kernel
theorem dX12_clash_47 : decode cX12_clash 47 = .ok (.aload_n 0, 1) := by decide +kernel
theorem dX12_clash_48 : decode cX12_clash 48 = .ok (.getfield 19, 3) := by decide +kernel
theorem dX12_clash_51 : decode cX12_clash 51 = .ok (.iload_n 3, 1) := by decide +kernel
theorem dX12_clash_52 : decode cX12_clash 52 = .ok (.invokevirtual 97, 3) := by decide +kernel
theorem dX12_clash_55 : decode cX12_clash 55 = .ok (.checkcast 85, 3) := by decide +kernel
theorem dX12_clash_58 : decode cX12_clash 58 = .ok (.getfield 88, 3) := by decide +kernel
theorem dX12_clash_61 : decode cX12_clash 61 = .ok (.istore 4, 2) := by decide +kernel
theorem dX12_clash_63 : decode cX12_clash 63 = .ok (.iconst 0, 1) := by decide +kernel
theorem dX12_clash_64 : decode cX12_clash 64 = .ok (.istore 5, 2) := by decide +kernel
theorem dX12_clash_66 : decode cX12_clash 66 = .ok (.iload 5, 2) := by decide +kernel
theorem dX12_clash_68 : decode cX12_clash 68 = .ok (.aload_n 0, 1) := by decide +kernel
theorem dX12_clash_69 : decode cX12_clash 69 = .ok (.getfield 10, 3) := by decide +kernel
theorem dX12_clash_72 : decode cX12_clash 72 = .ok (.invokevirtual 42, 3) := by decide +kernel
theorem dX12_clash_75 : decode cX12_clash 75 = .ok (.if_icmp .ge 38, 3) := by decide +kernel
theorem dX12_clash_78 : decode cX12_clash 78 = .ok (.iload 4, 2) := by decide +kernel
theorem dX12_clash_80 : decode cX12_clash 80 = .ok (.iload 5, 2) := by decide +kernel
theorem dX12_clash_82 : decode cX12_clash 82 = .ok (.invokestatic 159, 3) := by decide +kernel
theorem dX12_clash_85 : decode cX12_clash 85 = .ok (.ifCond .eq 22, 3) := by decide +kernel
theorem dX12_clash_88 : decode cX12_clash 88 = .ok (.aload_n 0, 1) := by decide +kernel
theorem dX12_clash_89 : decode cX12_clash 89 = .ok (.getfield 35, 3) := by decide +kernel
theorem dX12_clash_92 : decode cX12_clash 92 = .ok (.iload 5, 2) := by decide +kernel
theorem dX12_clash_94 : decode cX12_clash 94 = .ok (.dup2, 1) := by decide +kernel
theorem dX12_clash_95 : decode cX12_clash 95 = .ok (.iaload, 1) := by decide +kernel
theorem dX12_clash_96 : decode cX12_clash 96 = .ok (.iload 4, 2) := by decide +kernel
theorem dX12_clash_98 : decode cX12_clash 98 = .ok (.iconst 1, 1) := by decide +kernel
theorem dX12_clash_99 : decode cX12_clash 99 = .ok (.iload 5, 2) := by decide +kernel
theorem dX12_clash_101 : decode cX12_clash 101 = .ok (.ishl, 1) := by decide +kernel
theorem dX12_clash_102 : decode cX12_clash 102 = .ok (.iconst (-1), 1) := by decide +kernel
theorem dX12_clash_103 : decode cX12_clash 103 = .ok (.ixor, 1) := by decide +kernel
theorem dX12_clash_104 : decode cX12_clash 104 = .ok (.iand, 1) := by decide +kernel
theorem dX12_clash_105 : decode cX12_clash 105 = .ok (.ior, 1) := by decide +kernel
theorem dX12_clash_106 : decode cX12_clash 106 = .ok (.iastore, 1) := by decide +kernel
theorem dX12_clash_107 : decode cX12_clash 107 = .ok (.iinc 5 1, 3) := by decide +kernel
theorem dX12_clash_110 : decode cX12_clash 110 = .ok (.goto (-44), 3) := by decide +kernel
theorem dX12_clash_113 : decode cX12_clash 113 = .ok (.iconst 0, 1) := by decide +kernel
theorem dX12_clash_114 : decode cX12_clash 114 = .ok (.istore 5, 2) := by decide +kernel
theorem dX12_clash_116 : decode cX12_clash 116 = .ok (.iload 5, 2) := by decide +kernel
theorem dX12_clash_118 : decode cX12_clash 118 = .ok (.aload_n 0, 1) := by decide +kernel
theorem dX12_clash_119 : decode cX12_clash 119 = .ok (.getfield 10, 3) := by decide +kernel
theorem dX12_clash_122 : decode cX12_clash 122 = .ok (.invokevirtual 42, 3) := by decide +kernel
theorem dX12_clash_125 : decode cX12_clash 125 = .ok (.if_icmp .ge 175, 3) := by decide +kernel
theorem dX12_clash_128 : decode cX12_clash 128 = .ok (.iload_n 2, 1) := by decide +kernel
theorem dX12_clash_129 : decode cX12_clash 129 = .ok (.iconst (-1), 1) := by decide +kernel
theorem dX12_clash_130 : decode cX12_clash 130 = .ok (.if_icmp .eq 170, 3) := by decide +kernel
theorem dX12_clash_133 : decode cX12_clash 133 = .ok (.iconst 0, 1) := by decide +kernel
theorem dX12_clash_134 : decode cX12_clash 134 = .ok (.istore 6, 2) := by decide +kernel
theorem dX12_clash_136 : decode cX12_clash 136 = .ok (.iload 6, 2) := by decide +kernel
theorem dX12_clash_138 : decode cX12_clash 138 = .ok (.aload_n 0, 1) := by decide +kernel
theorem dX12_clash_139 : decode cX12_clash 139 = .ok (.getfield 10, 3) := by decide +kernel
theorem dX12_clash_142 : decode cX12_clash 142 = .ok (.invokevirtual 42, 3) := by decide +kernel
theorem dX12_clash_145 : decode cX12_clash 145 = .ok (.if_icmp .ge 149, 3) := by decide +kernel
theorem dX12_clash_148 : decode cX12_clash 148 = .ok (.iload 5, 2) := by decide +kernel
theorem dX12_clash_150 : decode cX12_clash 150 = .ok (.iload 6, 2) := by decide +kernel
theorem dX12_clash_152 : decode cX12_clash 152 = .ok (.if_icmp .eq 87, 3) := by decide +kernel
theorem dX12_clash_155 : decode cX12_clash 155 = .ok (.aload_n 0, 1) := by decide +kernel
theorem dX12_clash_156 : decode cX12_clash 156 = .ok (.getfield 19, 3) := by decide +kernel
theorem dX12_clash_159 : decode cX12_clash 159 = .ok (.iload_n 2, 1) := by decide +kernel
theorem dX12_clash_160 : decode cX12_clash 160 = .ok (.invokevirtual 97, 3) := by decide +kernel
theorem dX12_clash_163 : decode cX12_clash 163 = .ok (.checkcast 85, 3) := by decide +kernel
theorem dX12_clash_166 : decode cX12_clash 166 = .ok (.getfield 88, 3) := by decide +kernel
theorem dX12_clash_169 : decode cX12_clash 169 = .ok (.iload 5, 2) := by decide +kernel
theorem dX12_clash_171 : decode cX12_clash 171 = .ok (.invokestatic 159, 3) := by decide +kernel
theorem dX12_clash_174 : decode cX12_clash 174 = .ok (.ifCond .eq 65, 3) := by decide +kernel
theorem dX12_clash_177 : decode cX12_clash 177 = .ok (.iload 4, 2) := by decide +kernel
theorem dX12_clash_179 : decode cX12_clash 179 = .ok (.iload 6, 2) := by decide +kernel
theorem dX12_clash_181 : decode cX12_clash 181 = .ok (.invokestatic 159, 3) := by decide +kernel
theorem dX12_clash_184 : decode cX12_clash 184 = .ok (.ifCond .eq 55, 3) := by decide +kernel
theorem dX12_clash_187 : decode cX12_clash 187 = .ok (.aload_n 0, 1) := by decide +kernel
theorem dX12_clash_188 : decode cX12_clash 188 = .ok (.getfield 10, 3) := by decide +kernel
theorem dX12_clash_191 : decode cX12_clash 191 = .ok (.iload 5, 2) := by decide +kernel
theorem dX12_clash_193 : decode cX12_clash 193 = .ok (.invokevirtual 97, 3) := by decide +kernel
theorem dX12_clash_196 : decode cX12_clash 196 = .ok (.checkcast 54, 3) := by decide +kernel
theorem dX12_clash_199 : decode cX12_clash 199 = .ok (.getfield 63, 3) := by decide +kernel
theorem dX12_clash_202 : decode cX12_clash 202 = .ok (.aload_n 0, 1) := by decide +kernel
theorem dX12_clash_203 : decode cX12_clash 203 = .ok (.getfield 10, 3) := by decide +kernel
theorem dX12_clash_206 : decode cX12_clash 206 = .ok (.iload 6, 2) := by decide +kernel
theorem dX12_clash_208 : decode cX12_clash 208 = .ok (.invokevirtual 97, 3) := by decide +kernel
theorem dX12_clash_211 : decode cX12_clash 211 = .ok (.checkcast 54, 3) := by decide +kernel
theorem dX12_clash_214 : decode cX12_clash 214 = .ok (.getfield 63, 3) := by decide +kernel
theorem dX12_clash_217 : decode cX12_clash 217 = .ok (.iadd, 1) := by decide +kernel
theorem dX12_clash_218 : decode cX12_clash 218 = .ok (.aload_n 0, 1) := by decide +kernel
theorem dX12_clash_219 : decode cX12_clash 219 = .ok (.getfield 19, 3) := by decide +kernel
theorem dX12_clash_222 : decode cX12_clash 222 = .ok (.iload_n 2, 1) := by decide +kernel
theorem dX12_clash_223 : decode cX12_clash 223 = .ok (.invokevirtual 97, 3) := by decide +kernel
theorem dX12_clash_226 : decode cX12_clash 226 = .ok (.checkcast 85, 3) := by decide +kernel
theorem dX12_clash_229 : decode cX12_clash 229 = .ok (.getfield 90, 3) := by decide +kernel
theorem dX12_clash_232 : decode cX12_clash 232 = .ok (.if_icmp .le 7, 3) := by decide +kernel
theorem dX12_clash_235 : decode cX12_clash 235 = .ok (.iconst 1, 1) := by decide +kernel
theorem dX12_clash_236 : decode cX12_clash 236 = .ok (.goto 4, 3) := by decide +kernel
theorem dX12_clash_239 : decode cX12_clash 239 = .ok (.iconst 0, 1) := by decide +kernel
theorem dX12_clash_240 : decode cX12_clash 240 = .ok (.istore 7, 2) := by decide +kernel
theorem dX12_clash_242 : decode cX12_clash 242 = .ok (.aload_n 0, 1) := by decide +kernel
theorem dX12_clash_243 : decode cX12_clash 243 = .ok (.getfield 35, 3) := by decide +kernel
theorem dX12_clash_246 : decode cX12_clash 246 = .ok (.iload 5, 2) := by decide +kernel
theorem dX12_clash_248 : decode cX12_clash 248 = .ok (.dup2, 1) := by decide +kernel
theorem dX12_clash_249 : decode cX12_clash 249 = .ok (.iaload, 1) := by decide +kernel
theorem dX12_clash_250 : decode cX12_clash 250 = .ok (.iload 7, 2) := by decide +kernel
theorem dX12_clash_252 : decode cX12_clash 252 = .ok (.ifCond .eq 10, 3) := by decide +kernel
theorem dX12_clash_255 : decode cX12_clash 255 = .ok (.iconst 1, 1) := by decide +kernel
theorem dX12_clash_256 : decode cX12_clash 256 = .ok (.iload 6, 2) := by decide +kernel
theorem dX12_clash_258 : decode cX12_clash 258 = .ok (.ishl, 1) := by decide +kernel
theorem dX12_clash_259 : decode cX12_clash 259 = .ok (.goto 4, 3) := by decide +kernel
theorem dX12_clash_262 : decode cX12_clash 262 = .ok (.iconst 0, 1) := by decide +kernel
theorem dX12_clash_263 : decode cX12_clash 263 = .ok (.ior, 1) := by decide +kernel
theorem dX12_clash_264 : decode cX12_clash 264 = .ok (.iastore, 1) := by decide +kernel
theorem dX12_clash_265 : decode cX12_clash 265 = .ok (.aload_n 0, 1) := by decide +kernel
theorem dX12_clash_266 : decode cX12_clash 266 = .ok (.getfield 35, 3) := by decide +kernel
theorem dX12_clash_269 : decode cX12_clash 269 = .ok (.iload 6, 2) := by decide +kernel
theorem dX12_clash_271 : decode cX12_clash 271 = .ok (.dup2, 1) := by decide +kernel
theorem dX12_clash_272 : decode cX12_clash 272 = .ok (.iaload, 1) := by decide +kernel
theorem dX12_clash_273 : decode cX12_clash 273 = .ok (.iload 7, 2) := by decide +kernel
theorem dX12_clash_275 : decode cX12_clash 275 = .ok (.ifCond .eq 10, 3) := by decide +kernel
theorem dX12_clash_278 : decode cX12_clash 278 = .ok (.iconst 1, 1) := by decide +kernel
theorem dX12_clash_279 : decode cX12_clash 279 = .ok (.iload 5, 2) := by decide +kernel
theorem dX12_clash_281 : decode cX12_clash 281 = .ok (.ishl, 1) := by decide +kernel
theorem dX12_clash_282 : decode cX12_clash 282 = .ok (.goto 4, 3) := by decide +kernel
theorem dX12_clash_285 : decode cX12_clash 285 = .ok (.iconst 0, 1) := by decide +kernel
theorem dX12_clash_286 : decode cX12_clash 286 = .ok (.ior, 1) := by decide +kernel
theorem dX12_clash_287 : decode cX12_clash 287 = .ok (.iastore, 1) := by decide +kernel
theorem dX12_clash_288 : decode cX12_clash 288 = .ok (.iinc 6 1, 3) := by decide +kernel
theorem dX12_clash_291 : decode cX12_clash 291 = .ok (.goto (-155), 3) := by decide +kernel
theorem dX12_clash_294 : decode cX12_clash 294 = .ok (.iinc 5 1, 3) := by decide +kernel
theorem dX12_clash_297 : decode cX12_clash 297 = .ok (.goto (-181), 3) := by decide +kernel
theorem dX12_clash_300 : decode cX12_clash 300 = .ok (.iload_n 3, 1) := by decide +kernel
theorem dX12_clash_301 : decode cX12_clash 301 = .ok (.istore_n 2, 1) := by decide +kernel
theorem dX12_clash_302 : decode cX12_clash 302 = .ok (.iinc 3 1, 3) := by decide +kernel
theorem dX12_clash_305 : decode cX12_clash 305 = .ok (.goto (-280), 3) := by decide +kernel
theorem dX12_clash_308 : decode cX12_clash 308 = .ok (.return_, 1) := by decide +kernel
theorem dX12_partsOf_0 : decode cX12_partsOf 0 = .ok (.iconst 0, 1) := by decide +kernel
theorem dX12_partsOf_1 : decode cX12_partsOf 1 = .ok (.istore_n 2, 1) := by decide +kernel
theorem dX12_partsOf_2 : decode cX12_partsOf 2 = .ok (.iconst 0, 1) := by decide +kernel
theorem dX12_partsOf_3 : decode cX12_partsOf 3 = .ok (.istore_n 3, 1) := by decide +kernel
theorem dX12_partsOf_4 : decode cX12_partsOf 4 = .ok (.iload_n 3, 1) := by decide +kernel
theorem dX12_partsOf_5 : decode cX12_partsOf 5 = .ok (.aload_n 0, 1) := by decide +kernel
theorem dX12_partsOf_6 : decode cX12_partsOf 6 = .ok (.getfield 19, 3) := by decide +kernel
theorem dX12_partsOf_9 : decode cX12_partsOf 9 = .ok (.invokevirtual 42, 3) := by decide +kernel
theorem dX12_partsOf_12 : decode cX12_partsOf 12 = .ok (.if_icmp .ge 38, 3) := by decide +kernel
theorem dX12_partsOf_15 : decode cX12_partsOf 15 = .ok (.iload_n 2, 1) := by decide +kernel
theorem dX12_partsOf_16 : decode cX12_partsOf 16 = .ok (.iload_n 1, 1) := by decide +kernel
theorem dX12_partsOf_17 : decode cX12_partsOf 17 = .ok (.iload_n 3, 1) := by decide +kernel
theorem dX12_partsOf_18 : decode cX12_partsOf 18 = .ok (.invokestatic 159, 3) := by decide +kernel
theorem dX12_partsOf_21 : decode cX12_partsOf 21 = .ok (.ifCond .eq 20, 3) := by decide +kernel
theorem dX12_partsOf_24 : decode cX12_partsOf 24 = .ok (.aload_n 0, 1) := by decide +kernel
theorem dX12_partsOf_25 : decode cX12_partsOf 25 = .ok (.getfield 19, 3) := by decide +kernel
theorem dX12_partsOf_28 : decode cX12_partsOf 28 = .ok (.iload_n 3, 1) := by decide +kernel
theorem dX12_partsOf_29 : decode cX12_partsOf 29 = .ok (.invokevirtual 97, 3) := by decide +kernel
theorem dX12_partsOf_32 : decode cX12_partsOf 32 = .ok (.checkcast 85, 3) := by decide +kernel
theorem dX12_partsOf_35 : decode cX12_partsOf 35 = .ok (.getfield 88, 3) := by decide +kernel
theorem dX12_partsOf_38 : decode cX12_partsOf 38 = .ok (.goto 4, 3) := by decide +kernel
theorem dX12_partsOf_41 : decode cX12_partsOf 41 = .ok (.iconst 0, 1) := by decide +kernel
theorem dX12_partsOf_42 : decode cX12_partsOf 42 = .ok (.ior, 1) := by decide +kernel
theorem dX12_partsOf_43 : decode cX12_partsOf 43 = .ok (.istore_n 2, 1) := by decide +kernel
theorem dX12_partsOf_44 : decode cX12_partsOf 44 = .ok (.iinc 3 1, 3) := by decide +kernel
theorem dX12_partsOf_47 : decode cX12_partsOf 47 = .ok (.goto (-43), 3) := by decide +kernel
theorem dX12_partsOf_50 : decode cX12_partsOf 50 = .ok (.iload_n 2, 1) := by decide +kernel
theorem dX12_partsOf_51 : decode cX12_partsOf 51 = .ok (.ireturn, 1) := by decide +kernel
theorem dX12_fills_0 : decode cX12_fills 0 = .ok (.iload_n 1, 1) := by decide +kernel
theorem dX12_fills_1 : decode cX12_fills 1 = .ok (.aload_n 0, 1) := by decide +kernel
theorem dX12_fills_2 : decode cX12_fills 2 = .ok (.getfield 10, 3) := by decide +kernel
theorem dX12_fills_5 : decode cX12_fills 5 = .ok (.invokevirtual 42, 3) := by decide +kernel
theorem dX12_fills_8 : decode cX12_fills 8 = .ok (.if_icmp .ne 5, 3) := by decide +kernel
theorem dX12_fills_11 : decode cX12_fills 11 = .ok (.iconst 1, 1) := by decide +kernel
theorem dX12_fills_12 : decode cX12_fills 12 = .ok (.ireturn, 1) := by decide +kernel
theorem dX12_fills_13 : decode cX12_fills 13 = .ok (.aload_n 0, 1) := by decide +kernel
theorem dX12_fills_14 : decode cX12_fills 14 = .ok (.getfield 32, 3) := by decide +kernel
theorem dX12_fills_17 : decode cX12_fills 17 = .ok (.iload_n 1, 1) := by decide +kernel
theorem dX12_fills_18 : decode cX12_fills 18 = .ok (.iconst (-1), 1) := by decide +kernel
theorem dX12_fills_19 : decode cX12_fills 19 = .ok (.iastore, 1) := by decide +kernel
theorem dX12_fills_20 : decode cX12_fills 20 = .ok (.iload_n 2, 1) := by decide +kernel
theorem dX12_fills_21 : decode cX12_fills 21 = .ok (.iload_n 1, 1) := by decide +kernel
theorem dX12_fills_22 : decode cX12_fills 22 = .ok (.invokestatic 159, 3) := by decide +kernel
theorem dX12_fills_25 : decode cX12_fills 25 = .ok (.ifCond .ne 15, 3) := by decide +kernel
theorem dX12_fills_28 : decode cX12_fills 28 = .ok (.aload_n 0, 1) := by decide +kernel
theorem dX12_fills_29 : decode cX12_fills 29 = .ok (.iload_n 1, 1) := by decide +kernel
theorem dX12_fills_30 : decode cX12_fills 30 = .ok (.iconst 1, 1) := by decide +kernel
theorem dX12_fills_31 : decode cX12_fills 31 = .ok (.iadd, 1) := by decide +kernel
theorem dX12_fills_32 : decode cX12_fills 32 = .ok (.iload_n 2, 1) := by decide +kernel
theorem dX12_fills_33 : decode cX12_fills 33 = .ok (.iload_n 3, 1) := by decide +kernel
theorem dX12_fills_34 : decode cX12_fills 34 = .ok (.iload 4, 2) := by decide +kernel
theorem dX12_fills_36 : decode cX12_fills 36 = .ok (.invokevirtual 166, 3) := by decide +kernel
theorem dX12_fills_39 : decode cX12_fills 39 = .ok (.ireturn, 1) := by decide +kernel
theorem dX12_fills_40 : decode cX12_fills 40 = .ok (.iconst 0, 1) := by decide +kernel
theorem dX12_fills_41 : decode cX12_fills 41 = .ok (.istore 5, 2) := by decide +kernel
theorem dX12_fills_43 : decode cX12_fills 43 = .ok (.iload 5, 2) := by decide +kernel
theorem dX12_fills_45 : decode cX12_fills 45 = .ok (.aload_n 0, 1) := by decide +kernel
theorem dX12_fills_46 : decode cX12_fills 46 = .ok (.getfield 16, 3) := by decide +kernel
theorem dX12_fills_49 : decode cX12_fills 49 = .ok (.invokevirtual 42, 3) := by decide +kernel
theorem dX12_fills_52 : decode cX12_fills 52 = .ok (.if_icmp .ge 135, 3) := by decide +kernel
theorem dX12_fills_55 : decode cX12_fills 55 = .ok (.aload_n 0, 1) := by decide +kernel
theorem dX12_fills_56 : decode cX12_fills 56 = .ok (.iload 5, 2) := by decide +kernel
theorem dX12_fills_58 : decode cX12_fills 58 = .ok (.iload_n 1, 1) := by decide +kernel
theorem dX12_fills_59 : decode cX12_fills 59 = .ok (.invokevirtual 163, 3) := by decide +kernel
theorem dX12_fills_62 : decode cX12_fills 62 = .ok (.ifCond .eq 119, 3) := by decide +kernel
theorem dX12_fills_65 : decode cX12_fills 65 = .ok (.iload_n 3, 1) := by decide +kernel
theorem dX12_fills_66 : decode cX12_fills 66 = .ok (.iload 5, 2) := by decide +kernel
theorem dX12_fills_68 : decode cX12_fills 68 = .ok (.invokestatic 159, 3) := by decide +kernel
theorem dX12_fills_71 : decode cX12_fills 71 = .ok (.ifCond .ne 15, 3) := by decide +kernel
theorem dX12_fills_74 : decode cX12_fills 74 = .ok (.iload_n 3, 1) := by decide +kernel
theorem dX12_fills_75 : decode cX12_fills 75 = .ok (.invokestatic 170, 3) := by decide +kernel
theorem dX12_fills_78 : decode cX12_fills 78 = .ok (.iload 4, 2) := by decide +kernel
theorem dX12_fills_80 : decode cX12_fills 80 = .ok (.if_icmp .ne 6, 3) := by decide +kernel
theorem dX12_fills_83 : decode cX12_fills 83 = .ok (.goto 98, 3) := by decide +kernel
theorem dX12_fills_86 : decode cX12_fills 86 = .ok (.iconst 1, 1) := by decide +kernel
theorem dX12_fills_87 : decode cX12_fills 87 = .ok (.istore 6, 2) := by decide +kernel
theorem dX12_fills_89 : decode cX12_fills 89 = .ok (.iconst 0, 1) := by decide +kernel
