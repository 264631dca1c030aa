theorem dX5_init_0 : decode cX5_init 0 = .ok (.aload_n 0, 1) := by decide +kernel
theorem dX5_init_1 : decode cX5_init 1 = .ok (.invokespecial 1, 3) := by decide +kernel
theorem dX5_init_4 : decode cX5_init 4 = .ok (.aload_n 0, 1) := by decide +kernel
theorem dX5_init_5 : decode cX5_init 5 = .ok (.new 7, 3) := by decide +kernel
theorem dX5_init_8 : decode cX5_init 8 = .ok (.dup, 1) := by decide +kernel
theorem dX5_init_9 : decode cX5_init 9 = .ok (.invokespecial 9, 3) := by decide +kernel
theorem dX5_init_12 : decode cX5_init 12 = .ok (.putfield 10, 3) := by decide +kernel
theorem dX5_init_15 : decode cX5_init 15 = .ok (.aload_n 0, 1) := by decide +kernel
theorem dX5_init_16 : decode cX5_init 16 = .ok (.new 16, 3) := by decide +kernel
theorem dX5_init_19 : decode cX5_init 19 = .ok (.dup, 1) := by decide +kernel
theorem dX5_init_20 : decode cX5_init 20 = .ok (.invokespecial 18, 3) := by decide +kernel
theorem dX5_init_23 : decode cX5_init 23 = .ok (.putfield 19, 3) := by decide +kernel
theorem dX5_init_26 : decode cX5_init 26 = .ok (.aload_n 0, 1) := by decide +kernel
theorem dX5_init_27 : decode cX5_init 27 = .ok (.new 23, 3) := by decide +kernel
theorem dX5_init_30 : decode cX5_init 30 = .ok (.dup, 1) := by decide +kernel
theorem dX5_init_31 : decode cX5_init 31 = .ok (.invokespecial 25, 3) := by decide +kernel
theorem dX5_init_34 : decode cX5_init 34 = .ok (.putfield 26, 3) := by decide +kernel
theorem dX5_init_37 : decode cX5_init 37 = .ok (.aload_n 0, 1) := by decide +kernel
theorem dX5_init_38 : decode cX5_init 38 = .ok (.new 30, 3) := by decide +kernel
theorem dX5_init_41 : decode cX5_init 41 = .ok (.dup, 1) := by decide +kernel
theorem dX5_init_42 : decode cX5_init 42 = .ok (.invokespecial 32, 3) := by decide +kernel
theorem dX5_init_45 : decode cX5_init 45 = .ok (.putfield 33, 3) := by decide +kernel
theorem dX5_init_48 : decode cX5_init 48 = .ok (.aload_n 0, 1) := by decide +kernel
theorem dX5_init_49 : decode cX5_init 49 = .ok (.new 37, 3) := by decide +kernel
theorem dX5_init_52 : decode cX5_init 52 = .ok (.dup, 1) := by decide +kernel
theorem dX5_init_53 : decode cX5_init 53 = .ok (.invokespecial 39, 3) := by decide +kernel
theorem dX5_init_56 : decode cX5_init 56 = .ok (.putfield 40, 3) := by decide +kernel
theorem dX5_init_59 : decode cX5_init 59 = .ok (.return_, 1) := by decide +kernel
theorem dX5_part_0 : decode cX5_part 0 = .ok (.iload_n 1, 1) := by decide +kernel
theorem dX5_part_1 : decode cX5_part 1 = .ok (.iconst 0, 1) := by decide +kernel
theorem dX5_part_2 : decode cX5_part 2 = .ok (.iconst 3, 1) := by decide +kernel
theorem dX5_part_3 : decode cX5_part 3 = .ok (.invokestatic 44, 3) := by decide +kernel
theorem dX5_part_6 : decode cX5_part 6 = .ok (.iload_n 2, 1) := by decide +kernel
theorem dX5_part_7 : decode cX5_part 7 = .ok (.iconst 0, 1) := by decide +kernel
theorem dX5_part_8 : decode cX5_part 8 = .ok (.iconst 3, 1) := by decide +kernel
theorem dX5_part_9 : decode cX5_part 9 = .ok (.invokestatic 44, 3) := by decide +kernel
theorem dX5_part_12 : decode cX5_part 12 = .ok (.iload_n 3, 1) := by decide +kernel
theorem dX5_part_13 : decode cX5_part 13 = .ok (.iconst 0, 1) := by decide +kernel
theorem dX5_part_14 : decode cX5_part 14 = .ok (.bipush 9, 2) := by decide +kernel
theorem dX5_part_16 : decode cX5_part 16 = .ok (.invokestatic 44, 3) := by decide +kernel
theorem dX5_part_19 : decode cX5_part 19 = .ok (.aload_n 0, 1) := by decide +kernel
theorem dX5_part_20 : decode cX5_part 20 = .ok (.getfield 10, 3) := by decide +kernel
theorem dX5_part_23 : decode cX5_part 23 = .ok (.getfield 48, 3) := by decide +kernel
theorem dX5_part_26 : decode cX5_part 26 = .ok (.bipush 7, 2) := by decide +kernel
theorem dX5_part_28 : decode cX5_part 28 = .ok (.invokestatic 52, 3) := by decide +kernel
theorem dX5_part_31 : decode cX5_part 31 = .ok (.aload_n 0, 1) := by decide +kernel
theorem dX5_part_32 : decode cX5_part 32 = .ok (.getfield 26, 3) := by decide +kernel
theorem dX5_part_35 : decode cX5_part 35 = .ok (.invokevirtual 56, 3) := by decide +kernel
theorem dX5_part_38 : decode cX5_part 38 = .ok (.aload_n 0, 1) := by decide +kernel
theorem dX5_part_39 : decode cX5_part 39 = .ok (.getfield 10, 3) := by decide +kernel
theorem dX5_part_42 : decode cX5_part 42 = .ok (.iload_n 1, 1) := by decide +kernel
theorem dX5_part_43 : decode cX5_part 43 = .ok (.iload_n 2, 1) := by decide +kernel
theorem dX5_part_44 : decode cX5_part 44 = .ok (.iload_n 3, 1) := by decide +kernel
theorem dX5_part_45 : decode cX5_part 45 = .ok (.invokevirtual 59, 3) := by decide +kernel
theorem dX5_part_48 : decode cX5_part 48 = .ok (.ireturn, 1) := by decide +kernel
theorem dX5_player_0 : decode cX5_player 0 = .ok (.iload_n 1, 1) := by decide +kernel
theorem dX5_player_1 : decode cX5_player 1 = .ok (.iconst 4, 1) := by decide +kernel
theorem dX5_player_2 : decode cX5_player 2 = .ok (.invokestatic 63, 3) := by decide +kernel
theorem dX5_player_5 : decode cX5_player 5 = .ok (.iload_n 2, 1) := by decide +kernel
theorem dX5_player_6 : decode cX5_player 6 = .ok (.iconst 1, 1) := by decide +kernel
theorem dX5_player_7 : decode cX5_player 7 = .ok (.bipush 9, 2) := by decide +kernel
theorem dX5_player_9 : decode cX5_player 9 = .ok (.invokestatic 44, 3) := by decide +kernel
theorem dX5_player_12 : decode cX5_player 12 = .ok (.iload_n 3, 1) := by decide +kernel
theorem dX5_player_13 : decode cX5_player 13 = .ok (.iconst 1, 1) := by decide +kernel
theorem dX5_player_14 : decode cX5_player 14 = .ok (.iconst 5, 1) := by decide +kernel
theorem dX5_player_15 : decode cX5_player 15 = .ok (.invokestatic 44, 3) := by decide +kernel
theorem dX5_player_18 : decode cX5_player 18 = .ok (.aload_n 0, 1) := by decide +kernel
theorem dX5_player_19 : decode cX5_player 19 = .ok (.getfield 19, 3) := by decide +kernel
theorem dX5_player_22 : decode cX5_player 22 = .ok (.getfield 66, 3) := by decide +kernel
theorem dX5_player_25 : decode cX5_player 25 = .ok (.iconst 5, 1) := by decide +kernel
theorem dX5_player_26 : decode cX5_player 26 = .ok (.invokestatic 52, 3) := by decide +kernel
theorem dX5_player_29 : decode cX5_player 29 = .ok (.aload_n 0, 1) := by decide +kernel
theorem dX5_player_30 : decode cX5_player 30 = .ok (.getfield 26, 3) := by decide +kernel
theorem dX5_player_33 : decode cX5_player 33 = .ok (.invokevirtual 56, 3) := by decide +kernel
theorem dX5_player_36 : decode cX5_player 36 = .ok (.aload_n 0, 1) := by decide +kernel
theorem dX5_player_37 : decode cX5_player 37 = .ok (.getfield 19, 3) := by decide +kernel
theorem dX5_player_40 : decode cX5_player 40 = .ok (.iload_n 1, 1) := by decide +kernel
theorem dX5_player_41 : decode cX5_player 41 = .ok (.iload_n 2, 1) := by decide +kernel
theorem dX5_player_42 : decode cX5_player 42 = .ok (.iload_n 3, 1) := by decide +kernel
theorem dX5_player_43 : decode cX5_player 43 = .ok (.invokevirtual 69, 3) := by decide +kernel
theorem dX5_player_46 : decode cX5_player 46 = .ok (.ireturn, 1) := by decide +kernel
theorem dX5_scene_0 : decode cX5_scene 0 = .ok (.iload_n 1, 1) := by decide +kernel
theorem dX5_scene_1 : decode cX5_scene 1 = .ok (.aload_n 0, 1) := by decide +kernel
theorem dX5_scene_2 : decode cX5_scene 2 = .ok (.getfield 10, 3) := by decide +kernel
theorem dX5_scene_5 : decode cX5_scene 5 = .ok (.getfield 48, 3) := by decide +kernel
theorem dX5_scene_8 : decode cX5_scene 8 = .ok (.invokestatic 63, 3) := by decide +kernel
theorem dX5_scene_11 : decode cX5_scene 11 = .ok (.iload_n 1, 1) := by decide +kernel
theorem dX5_scene_12 : decode cX5_scene 12 = .ok (.iconst 1, 1) := by decide +kernel
theorem dX5_scene_13 : decode cX5_scene 13 = .ok (.bipush 127, 2) := by decide +kernel
theorem dX5_scene_15 : decode cX5_scene 15 = .ok (.invokestatic 44, 3) := by decide +kernel
theorem dX5_scene_18 : decode cX5_scene 18 = .ok (.iload_n 2, 1) := by decide +kernel
theorem dX5_scene_19 : decode cX5_scene 19 = .ok (.iconst 0, 1) := by decide +kernel
theorem dX5_scene_20 : decode cX5_scene 20 = .ok (.bipush 9, 2) := by decide +kernel
theorem dX5_scene_22 : decode cX5_scene 22 = .ok (.invokestatic 44, 3) := by decide +kernel
theorem dX5_scene_25 : decode cX5_scene 25 = .ok (.aload_n 0, 1) := by decide +kernel
theorem dX5_scene_26 : decode cX5_scene 26 = .ok (.getfield 10, 3) := by decide +kernel
theorem dX5_scene_29 : decode cX5_scene 29 = .ok (.getfield 72, 3) := by decide +kernel
theorem dX5_scene_32 : decode cX5_scene 32 = .ok (.bipush 6, 2) := by decide +kernel
theorem dX5_scene_34 : decode cX5_scene 34 = .ok (.invokestatic 52, 3) := by decide +kernel
theorem dX5_scene_37 : decode cX5_scene 37 = .ok (.aload_n 0, 1) := by decide +kernel
theorem dX5_scene_38 : decode cX5_scene 38 = .ok (.getfield 26, 3) := by decide +kernel
theorem dX5_scene_41 : decode cX5_scene 41 = .ok (.invokevirtual 56, 3) := by decide +kernel
theorem dX5_scene_44 : decode cX5_scene 44 = .ok (.aload_n 0, 1) := by decide +kernel
theorem dX5_scene_45 : decode cX5_scene 45 = .ok (.getfield 10, 3) := by decide +kernel
theorem dX5_scene_48 : decode cX5_scene 48 = .ok (.iload_n 1, 1) := by decide +kernel
theorem dX5_scene_49 : decode cX5_scene 49 = .ok (.iload_n 2, 1) := by decide +kernel
theorem dX5_scene_50 : decode cX5_scene 50 = .ok (.invokevirtual 75, 3) := by decide +kernel
theorem dX5_scene_53 : decode cX5_scene 53 = .ok (.ireturn, 1) := by decide +kernel
theorem dX5_pause_0 : decode cX5_pause 0 = .ok (.iload_n 1, 1) := by decide +kernel
theorem dX5_pause_1 : decode cX5_pause 1 = .ok (.aload_n 0, 1) := by decide +kernel
theorem dX5_pause_2 : decode cX5_pause 2 = .ok (.getfield 10, 3) := by decide +kernel
theorem dX5_pause_5 : decode cX5_pause 5 = .ok (.getfield 72, 3) := by decide +kernel
theorem dX5_pause_8 : decode cX5_pause 8 = .ok (.invokestatic 79, 3) := by decide +kernel
theorem dX5_pause_11 : decode cX5_pause 11 = .ok (.iload_n 2, 1) := by decide +kernel
theorem dX5_pause_12 : decode cX5_pause 12 = .ok (.iconst 0, 1) := by decide +kernel
theorem dX5_pause_13 : decode cX5_pause 13 = .ok (.bipush 9, 2) := by decide +kernel
theorem dX5_pause_15 : decode cX5_pause 15 = .ok (.invokestatic 44, 3) := by decide +kernel
theorem dX5_pause_18 : decode cX5_pause 18 = .ok (.aload_n 0, 1) := by decide +kernel
theorem dX5_pause_19 : decode cX5_pause 19 = .ok (.getfield 26, 3) := by decide +kernel
theorem dX5_pause_22 : decode cX5_pause 22 = .ok (.invokevirtual 56, 3) := by decide +kernel
theorem dX5_pause_25 : decode cX5_pause 25 = .ok (.aload_n 0, 1) := by decide +kernel
theorem dX5_pause_26 : decode cX5_pause 26 = .ok (.getfield 10, 3) := by decide +kernel
theorem dX5_pause_29 : decode cX5_pause 29 = .ok (.getfield 82, 3) := by decide +kernel
theorem dX5_pause_32 : decode cX5_pause 32 = .ok (.iload_n 1, 1) := by decide +kernel
theorem dX5_pause_33 : decode cX5_pause 33 = .ok (.iaload, 1) := by decide +kernel
theorem dX5_pause_34 : decode cX5_pause 34 = .ok (.istore_n 3, 1) := by decide +kernel
theorem dX5_pause_35 : decode cX5_pause 35 = .ok (.aload_n 0, 1) := by decide +kernel
theorem dX5_pause_36 : decode cX5_pause 36 = .ok (.getfield 10, 3) := by decide +kernel
theorem dX5_pause_39 : decode cX5_pause 39 = .ok (.getfield 82, 3) := by decide +kernel
theorem dX5_pause_42 : decode cX5_pause 42 = .ok (.iload_n 1, 1) := by decide +kernel
theorem dX5_pause_43 : decode cX5_pause 43 = .ok (.iload_n 2, 1) := by decide +kernel
theorem dX5_pause_44 : decode cX5_pause 44 = .ok (.iastore, 1) := by decide +kernel
theorem dX5_pause_45 : decode cX5_pause 45 = .ok (.iload_n 3, 1) := by decide +kernel
theorem dX5_pause_46 : decode cX5_pause 46 = .ok (.ireturn, 1) := by decide +kernel
theorem dX5_sick_0 : decode cX5_sick 0 = .ok (.iload_n 1, 1) := by decide +kernel
theorem dX5_sick_1 : decode cX5_sick 1 = .ok (.aload_n 0, 1) := by decide +kernel
theorem dX5_sick_2 : decode cX5_sick 2 = .ok (.getfield 19, 3) := by decide +kernel
theorem dX5_sick_5 : decode cX5_sick 5 = .ok (.getfield 66, 3) := by decide +kernel
theorem dX5_sick_8 : decode cX5_sick 8 = .ok (.invokestatic 79, 3) := by decide +kernel
theorem dX5_sick_11 : decode cX5_sick 11 = .ok (.aload_n 0, 1) := by decide +kernel
theorem dX5_sick_12 : decode cX5_sick 12 = .ok (.getfield 26, 3) := by decide +kernel
theorem dX5_sick_15 : decode cX5_sick 15 = .ok (.invokevirtual 56, 3) := by decide +kernel
theorem dX5_sick_18 : decode cX5_sick 18 = .ok (.aload_n 0, 1) := by decide +kernel
theorem dX5_sick_19 : decode cX5_sick 19 = .ok (.getfield 19, 3) := by decide +kernel
theorem dX5_sick_22 : decode cX5_sick 22 = .ok (.iload_n 2, 1) := by decide +kernel
theorem dX5_sick_23 : decode cX5_sick 23 = .ok (.ifCond .eq 17, 3) := by decide +kernel
theorem dX5_sick_26 : decode cX5_sick 26 = .ok (.aload_n 0, 1) := by decide +kernel
theorem dX5_sick_27 : decode cX5_sick 27 = .ok (.getfield 19, 3) := by decide +kernel
theorem dX5_sick_30 : decode cX5_sick 30 = .ok (.getfield 86, 3) := by decide +kernel
theorem dX5_sick_33 : decode cX5_sick 33 = .ok (.iconst 1, 1) := by decide +kernel
theorem dX5_sick_34 : decode cX5_sick 34 = .ok (.iload_n 1, 1) := by decide +kernel
theorem dX5_sick_35 : decode cX5_sick 35 = .ok (.ishl, 1) := by decide +kernel
theorem dX5_sick_36 : decode cX5_sick 36 = .ok (.ior, 1) := by decide +kernel
theorem dX5_sick_37 : decode cX5_sick 37 = .ok (.goto 16, 3) := by decide +kernel
theorem dX5_sick_40 : decode cX5_sick 40 = .ok (.aload_n 0, 1) := by decide +kernel
theorem dX5_sick_41 : decode cX5_sick 41 = .ok (.getfield 19, 3) := by decide +kernel
theorem dX5_sick_44 : decode cX5_sick 44 = .ok (.getfield 86, 3) := by decide +kernel
theorem dX5_sick_47 : decode cX5_sick 47 = .ok (.iconst 1, 1) := by decide +kernel
theorem dX5_sick_48 : decode cX5_sick 48 = .ok (.iload_n 1, 1) := by decide +kernel
theorem dX5_sick_49 : decode cX5_sick 49 = .ok (.ishl, 1) := by decide +kernel
theorem dX5_sick_50 : decode cX5_sick 50 = .ok (.iconst (-1), 1) := by decide +kernel
theorem dX5_sick_51 : decode cX5_sick 51 = .ok (.ixor, 1) := by decide +kernel
theorem dX5_sick_52 : decode cX5_sick 52 = .ok (.iand, 1) := by decide +kernel
theorem dX5_sick_53 : decode cX5_sick 53 = .ok (.putfield 86, 3) := by decide +kernel
theorem dX5_sick_56 : decode cX5_sick 56 = .ok (.aload_n 0, 1) := by decide +kernel
theorem dX5_sick_57 : decode cX5_sick 57 = .ok (.getfield 19, 3) := by decide +kernel
theorem dX5_sick_60 : decode cX5_sick 60 = .ok (.invokevirtual 89, 3) := by decide +kernel
theorem dX5_sick_63 : decode cX5_sick 63 = .ok (.ireturn, 1) := by decide +kernel
theorem dX5_coat_0 : decode cX5_coat 0 = .ok (.iload_n 1, 1) := by decide +kernel
theorem dX5_coat_1 : decode cX5_coat 1 = .ok (.iconst 0, 1) := by decide +kernel
theorem dX5_coat_2 : decode cX5_coat 2 = .ok (.iconst 3, 1) := by decide +kernel
theorem dX5_coat_3 : decode cX5_coat 3 = .ok (.invokestatic 44, 3) := by decide +kernel
theorem dX5_coat_6 : decode cX5_coat 6 = .ok (.iload_n 2, 1) := by decide +kernel
theorem dX5_coat_7 : decode cX5_coat 7 = .ok (.iconst 1, 1) := by decide +kernel
theorem dX5_coat_8 : decode cX5_coat 8 = .ok (.bipush 9, 2) := by decide +kernel
theorem dX5_coat_10 : decode cX5_coat 10 = .ok (.invokestatic 44, 3) := by decide +kernel
theorem dX5_coat_13 : decode cX5_coat 13 = .ok (.iload_n 3, 1) := by decide +kernel
theorem dX5_coat_14 : decode cX5_coat 14 = .ok (.iconst 1, 1) := by decide +kernel
theorem dX5_coat_15 : decode cX5_coat 15 = .ok (.bipush 99, 2) := by decide +kernel
theorem dX5_coat_17 : decode cX5_coat 17 = .ok (.invokestatic 44, 3) := by decide +kernel
theorem dX5_coat_20 : decode cX5_coat 20 = .ok (.aload_n 0, 1) := by decide +kernel
theorem dX5_coat_21 : decode cX5_coat 21 = .ok (.getfield 33, 3) := by decide +kernel
theorem dX5_coat_24 : decode cX5_coat 24 = .ok (.getfield 93, 3) := by decide +kernel
theorem dX5_coat_27 : decode cX5_coat 27 = .ok (.bipush 6, 2) := by decide +kernel
theorem dX5_coat_29 : decode cX5_coat 29 = .ok (.invokestatic 52, 3) := by decide +kernel
theorem dX5_coat_32 : decode cX5_coat 32 = .ok (.aload_n 0, 1) := by decide +kernel
theorem dX5_coat_33 : decode cX5_coat 33 = .ok (.getfield 33, 3) := by decide +kernel
theorem dX5_coat_36 : decode cX5_coat 36 = .ok (.iload_n 1, 1) := by decide +kernel
theorem dX5_coat_37 : decode cX5_coat 37 = .ok (.iload_n 2, 1) := by decide +kernel
theorem dX5_coat_38 : decode cX5_coat 38 = .ok (.iload_n 3, 1) := by decide +kernel
theorem dX5_coat_39 : decode cX5_coat 39 = .ok (.invokevirtual 96, 3) := by decide +kernel
theorem dX5_coat_42 : decode cX5_coat 42 = .ok (.ireturn, 1) := by decide +kernel
theorem dX5_pawn_0 : decode cX5_pawn 0 = .ok (.iload_n 1, 1) := by decide +kernel
theorem dX5_pawn_1 : decode cX5_pawn 1 = .ok (.aload_n 0, 1) := by decide +kernel
theorem dX5_pawn_2 : decode cX5_pawn 2 = .ok (.getfield 33, 3) := by decide +kernel
theorem dX5_pawn_5 : decode cX5_pawn 5 = .ok (.getfield 93, 3) := by decide +kernel
theorem dX5_pawn_8 : decode cX5_pawn 8 = .ok (.invokestatic 79, 3) := by decide +kernel
theorem dX5_pawn_11 : decode cX5_pawn 11 = .ok (.iload_n 2, 1) := by decide +kernel
theorem dX5_pawn_12 : decode cX5_pawn 12 = .ok (.aload_n 0, 1) := by decide +kernel
theorem dX5_pawn_13 : decode cX5_pawn 13 = .ok (.getfield 19, 3) := by decide +kernel
theorem dX5_pawn_16 : decode cX5_pawn 16 = .ok (.getfield 66, 3) := by decide +kernel
theorem dX5_pawn_19 : decode cX5_pawn 19 = .ok (.invokestatic 79, 3) := by decide +kernel
theorem dX5_pawn_22 : decode cX5_pawn 22 = .ok (.aload_n 0, 1) := by decide +kernel
theorem dX5_pawn_23 : decode cX5_pawn 23 = .ok (.getfield 33, 3) := by decide +kernel
theorem dX5_pawn_26 : decode cX5_pawn 26 = .ok (.getfield 99, 3) := by decide +kernel
theorem dX5_pawn_29 : decode cX5_pawn 29 = .ok (.iload_n 1, 1) := by decide +kernel
theorem dX5_pawn_30 : decode cX5_pawn 30 = .ok (.invokestatic 102, 3) := by decide +kernel
theorem dX5_pawn_33 : decode cX5_pawn 33 = .ok (.ifCond .eq 13, 3) := by decide +kernel
theorem dX5_pawn_36 : decode cX5_pawn 36 = .ok (.new 106, 3) := by decide +kernel
theorem dX5_pawn_39 : decode cX5_pawn 39 = .ok (.dup, 1) := by decide +kernel
theorem dX5_pawn_40 : decode cX5_pawn 40 = .ok (.ldc 108, 2) := by decide +kernel
theorem dX5_pawn_42 : decode cX5_pawn 42 = .ok (.invokespecial 110, 3) := by decide +kernel
theorem dX5_pawn_45 : decode cX5_pawn 45 = .ok (.athrow, 1) := by decide +kernel
theorem dX5_pawn_46 : decode cX5_pawn 46 = .ok (.aload_n 0, 1) := by decide +kernel
theorem dX5_pawn_47 : decode cX5_pawn 47 = .ok (.getfield 33, 3) := by decide +kernel
theorem dX5_pawn_50 : decode cX5_pawn 50 = .ok (.dup, 1) := by decide +kernel
theorem dX5_pawn_51 : decode cX5_pawn 51 = .ok (.getfield 99, 3) := by decide +kernel
theorem dX5_pawn_54 : decode cX5_pawn 54 = .ok (.iconst 1, 1) := by decide +kernel
theorem dX5_pawn_55 : decode cX5_pawn 55 = .ok (.iload_n 1, 1) := by decide +kernel
theorem dX5_pawn_56 : decode cX5_pawn 56 = .ok (.ishl, 1) := by decide +kernel
theorem dX5_pawn_57 : decode cX5_pawn 57 = .ok (.ior, 1) := by decide +kernel
theorem dX5_pawn_58 : decode cX5_pawn 58 = .ok (.putfield 99, 3) := by decide +kernel
theorem dX5_pawn_61 : decode cX5_pawn 61 = .ok (.aload_n 0, 1) := by decide +kernel
theorem dX5_pawn_62 : decode cX5_pawn 62 = .ok (.dup, 1) := by decide +kernel
theorem dX5_pawn_63 : decode cX5_pawn 63 = .ok (.getfield 113, 3) := by decide +kernel
theorem dX5_pawn_66 : decode cX5_pawn 66 = .ok (.aload_n 0, 1) := by decide +kernel
theorem dX5_pawn_67 : decode cX5_pawn 67 = .ok (.getfield 33, 3) := by decide +kernel
theorem dX5_pawn_70 : decode cX5_pawn 70 = .ok (.getfield 116, 3) := by decide +kernel
theorem dX5_pawn_73 : decode cX5_pawn 73 = .ok (.iload_n 1, 1) := by decide +kernel
theorem dX5_pawn_74 : decode cX5_pawn 74 = .ok (.iaload, 1) := by decide +kernel
theorem dX5_pawn_75 : decode cX5_pawn 75 = .ok (.iadd, 1) := by decide +kernel
theorem dX5_pawn_76 : decode cX5_pawn 76 = .ok (.putfield 113, 3) := by decide +kernel
theorem dX5_pawn_79 : decode cX5_pawn 79 = .ok (.aload_n 0, 1) := by decide +kernel
theorem dX5_pawn_80 : decode cX5_pawn 80 = .ok (.getfield 19, 3) := by decide +kernel
theorem dX5_pawn_83 : decode cX5_pawn 83 = .ok (.getfield 119, 3) := by decide +kernel
theorem dX5_pawn_86 : decode cX5_pawn 86 = .ok (.iload_n 2, 1) := by decide +kernel
theorem dX5_pawn_87 : decode cX5_pawn 87 = .ok (.dup2, 1) := by decide +kernel
theorem dX5_pawn_88 : decode cX5_pawn 88 = .ok (.iaload, 1) := by decide +kernel
theorem dX5_pawn_89 : decode cX5_pawn 89 = .ok (.aload_n 0, 1) := by decide +kernel
theorem dX5_pawn_90 : decode cX5_pawn 90 = .ok (.getfield 33, 3) := by decide +kernel
theorem dX5_pawn_93 : decode cX5_pawn 93 = .ok (.getfield 116, 3) := by decide +kernel
theorem dX5_pawn_96 : decode cX5_pawn 96 = .ok (.iload_n 1, 1) := by decide +kernel
theorem dX5_pawn_97 : decode cX5_pawn 97 = .ok (.iaload, 1) := by decide +kernel
theorem dX5_pawn_98 : decode cX5_pawn 98 = .ok (.iadd, 1) := by decide +kernel
theorem dX5_pawn_99 : decode cX5_pawn 99 = .ok (.iastore, 1) := by decide +kernel
theorem dX5_pawn_100 : decode cX5_pawn 100 = .ok (.aload_n 0, 1) := by decide +kernel
theorem dX5_pawn_101 : decode cX5_pawn 101 = .ok (.getfield 19, 3) := by decide +kernel
theorem dX5_pawn_104 : decode cX5_pawn 104 = .ok (.getfield 119, 3) := by decide +kernel
theorem dX5_pawn_107 : decode cX5_pawn 107 = .ok (.iload_n 2, 1) := by decide +kernel
theorem dX5_pawn_108 : decode cX5_pawn 108 = .ok (.iaload, 1) := by decide +kernel
theorem dX5_pawn_109 : decode cX5_pawn 109 = .ok (.ireturn, 1) := by decide +kernel
theorem dX5_redeem_0 : decode cX5_redeem 0 = .ok (.iload_n 1, 1) := by decide +kernel
theorem dX5_redeem_1 : decode cX5_redeem 1 = .ok (.aload_n 0, 1) := by decide +kernel
theorem dX5_redeem_2 : decode cX5_redeem 2 = .ok (.getfield 33, 3) := by decide +kernel
theorem dX5_redeem_5 : decode cX5_redeem 5 = .ok (.getfield 93, 3) := by decide +kernel
theorem dX5_redeem_8 : decode cX5_redeem 8 = .ok (.invokestatic 79, 3) := by decide +kernel
theorem dX5_redeem_11 : decode cX5_redeem 11 = .ok (.iload_n 2, 1) := by decide +kernel
theorem dX5_redeem_12 : decode cX5_redeem 12 = .ok (.aload_n 0, 1) := by decide +kernel
theorem dX5_redeem_13 : decode cX5_redeem 13 = .ok (.getfield 19, 3) := by decide +kernel
theorem dX5_redeem_16 : decode cX5_redeem 16 = .ok (.getfield 66, 3) := by decide +kernel
theorem dX5_redeem_19 : decode cX5_redeem 19 = .ok (.invokestatic 79, 3) := by decide +kernel
theorem dX5_redeem_22 : decode cX5_redeem 22 = .ok (.aload_n 0, 1) := by decide +kernel
theorem dX5_redeem_23 : decode cX5_redeem 23 = .ok (.getfield 33, 3) := by decide +kernel
theorem dX5_redeem_26 : decode cX5_redeem 26 = .ok (.getfield 116, 3) := by decide +kernel
theorem dX5_redeem_29 : decode cX5_redeem 29 = .ok (.iload_n 1, 1) := by decide +kernel
theorem dX5_redeem_30 : decode cX5_redeem 30 = .ok (.iaload, 1) := by decide +kernel
theorem dX5_redeem_31 : decode cX5_redeem 31 = .ok (.aload_n 0, 1) := by decide +kernel
theorem dX5_redeem_32 : decode cX5_redeem 32 = .ok (.getfield 33, 3) := by decide +kernel
theorem dX5_redeem_35 : decode cX5_redeem 35 = .ok (.getfield 116, 3) := by decide +kernel
theorem dX5_redeem_38 : decode cX5_redeem 38 = .ok (.iload_n 1, 1) := by decide +kernel
theorem dX5_redeem_39 : decode cX5_redeem 39 = .ok (.iaload, 1) := by decide +kernel
theorem dX5_redeem_40 : decode cX5_redeem 40 = .ok (.bipush 10, 2) := by decide +kernel
theorem dX5_redeem_42 : decode cX5_redeem 42 = .ok (.idiv, 1) := by decide +kernel
theorem dX5_redeem_43 : decode cX5_redeem 43 = .ok (.iadd, 1) := by decide +kernel
theorem dX5_redeem_44 : decode cX5_redeem 44 = .ok (.istore_n 3, 1) := by decide +kernel
theorem dX5_redeem_45 : decode cX5_redeem 45 = .ok (.aload_n 0, 1) := by decide +kernel
theorem dX5_redeem_46 : decode cX5_redeem 46 = .ok (.getfield 33, 3) := by decide +kernel
theorem dX5_redeem_49 : decode cX5_redeem 49 = .ok (.getfield 99, 3) := by decide +kernel
theorem dX5_redeem_52 : decode cX5_redeem 52 = .ok (.iload_n 1, 1) := by decide +kernel
theorem dX5_redeem_53 : decode cX5_redeem 53 = .ok (.invokestatic 102, 3) := by decide +kernel
theorem dX5_redeem_56 : decode cX5_redeem 56 = .ok (.ifCond .eq 16, 3) := by decide +kernel
theorem dX5_redeem_59 : decode cX5_redeem 59 = .ok (.aload_n 0, 1) := by decide +kernel
theorem dX5_redeem_60 : decode cX5_redeem 60 = .ok (.getfield 19, 3) := by decide +kernel
theorem dX5_redeem_63 : decode cX5_redeem 63 = .ok (.getfield 119, 3) := by decide +kernel
theorem dX5_redeem_66 : decode cX5_redeem 66 = .ok (.iload_n 2, 1) := by decide +kernel
theorem dX5_redeem_67 : decode cX5_redeem 67 = .ok (.iaload, 1) := by decide +kernel
theorem dX5_redeem_68 : decode cX5_redeem 68 = .ok (.iload_n 3, 1) := by decide +kernel
theorem dX5_redeem_69 : decode cX5_redeem 69 = .ok (.if_icmp .ge 13, 3) := by decide +kernel
theorem dX5_redeem_72 : decode cX5_redeem 72 = .ok (.new 106, 3) := by decide +kernel
theorem dX5_redeem_75 : decode cX5_redeem 75 = .ok (.dup, 1) := by decide +kernel
theorem dX5_redeem_76 : decode cX5_redeem 76 = .ok (.ldc 122, 2) := by decide +kernel
theorem dX5_redeem_78 : decode cX5_redeem 78 = .ok (.invokespecial 110, 3) := by decide +kernel
theorem dX5_redeem_81 : decode cX5_redeem 81 = .ok (.athrow, 1) := by decide +kernel
theorem dX5_redeem_82 : decode cX5_redeem 82 = .ok (.aload_n 0, 1) := by decide +kernel
theorem dX5_redeem_83 : decode cX5_redeem 83 = .ok (.getfield 33, 3) := by decide +kernel
theorem dX5_redeem_86 : decode cX5_redeem 86 = .ok (.dup, 1) := by decide +kernel
theorem dX5_redeem_87 : decode cX5_redeem 87 = .ok (.getfield 99, 3) := by decide +kernel
theorem dX5_redeem_90 : decode cX5_redeem 90 = .ok (.iconst 1, 1) := by decide +kernel
theorem dX5_redeem_91 : decode cX5_redeem 91 = .ok (.iload_n 1, 1) := by decide +kernel
theorem dX5_redeem_92 : decode cX5_redeem 92 = .ok (.ishl, 1) := by decide +kernel
theorem dX5_redeem_93 : decode cX5_redeem 93 = .ok (.iconst (-1), 1) := by decide +kernel
theorem dX5_redeem_94 : decode cX5_redeem 94 = .ok (.ixor, 1) := by decide +kernel
theorem dX5_redeem_95 : decode cX5_redeem 95 = .ok (.iand, 1) := by decide +kernel
theorem dX5_redeem_96 : decode cX5_redeem 96 = .ok (.putfield 99, 3) := by decide +kernel
theorem dX5_redeem_99 : decode cX5_redeem 99 = .ok (.aload_n 0, 1) := by decide +kernel
theorem dX5_redeem_100 : decode cX5_redeem 100 = .ok (.dup, 1) := by decide +kernel
theorem dX5_redeem_101 : decode cX5_redeem 101 = .ok (.getfield 124, 3) := by decide +kernel
theorem dX5_redeem_104 : decode cX5_redeem 104 = .ok (.iload_n 3, 1) := by decide +kernel
theorem dX5_redeem_105 : decode cX5_redeem 105 = .ok (.iadd, 1) := by decide +kernel
theorem dX5_redeem_106 : decode cX5_redeem 106 = .ok (.putfield 124, 3) := by decide +kernel
theorem dX5_redeem_109 : decode cX5_redeem 109 = .ok (.aload_n 0, 1) := by decide +kernel
theorem dX5_redeem_110 : decode cX5_redeem 110 = .ok (.getfield 19, 3) := by decide +kernel
theorem dX5_redeem_113 : decode cX5_redeem 113 = .ok (.getfield 119, 3) := by decide +kernel
theorem dX5_redeem_116 : decode cX5_redeem 116 = .ok (.iload_n 2, 1) := by decide +kernel
theorem dX5_redeem_117 : decode cX5_redeem 117 = .ok (.dup2, 1) := by decide +kernel
theorem dX5_redeem_118 : decode cX5_redeem 118 = .ok (.iaload, 1) := by decide +kernel
theorem dX5_redeem_119 : decode cX5_redeem 119 = .ok (.iload_n 3, 1) := by decide +kernel
theorem dX5_redeem_120 : decode cX5_redeem 120 = .ok (.isub, 1) := by decide +kernel
theorem dX5_redeem_121 : decode cX5_redeem 121 = .ok (.iastore, 1) := by decide +kernel
theorem dX5_redeem_122 : decode cX5_redeem 122 = .ok (.aload_n 0, 1) := by decide +kernel
theorem dX5_redeem_123 : decode cX5_redeem 123 = .ok (.getfield 19, 3) := by decide +kernel
theorem dX5_redeem_126 : decode cX5_redeem 126 = .ok (.getfield 119, 3) := by decide +kernel
theorem dX5_redeem_129 : decode cX5_redeem 129 = .ok (.iload_n 2, 1) := by decide +kernel
theorem dX5_redeem_130 : decode cX5_redeem 130 = .ok (.iaload, 1) := by decide +kernel
theorem dX5_redeem_131 : decode cX5_redeem 131 = .ok (.ireturn, 1) := by decide +kernel
theorem dX5_town_0 : decode cX5_town 0 = .ok (.iload_n 1, 1) := by decide +kernel
theorem dX5_town_1 : decode cX5_town 1 = .ok (.iconst 0, 1) := by decide +kernel
theorem dX5_town_2 : decode cX5_town 2 = .ok (.bipush 99, 2) := by decide +kernel
theorem dX5_town_4 : decode cX5_town 4 = .ok (.invokestatic 44, 3) := by decide +kernel
theorem dX5_town_7 : decode cX5_town 7 = .ok (.iload_n 2, 1) := by decide +kernel
theorem dX5_town_8 : decode cX5_town 8 = .ok (.iconst 0, 1) := by decide +kernel
theorem dX5_town_9 : decode cX5_town 9 = .ok (.bipush 99, 2) := by decide +kernel
theorem dX5_town_11 : decode cX5_town 11 = .ok (.invokestatic 44, 3) := by decide +kernel
theorem dX5_town_14 : decode cX5_town 14 = .ok (.iload_n 3, 1) := by decide +kernel
theorem dX5_town_15 : decode cX5_town 15 = .ok (.iconst 0, 1) := by decide +kernel
theorem dX5_town_16 : decode cX5_town 16 = .ok (.sipush 999, 3) := by decide +kernel
theorem dX5_town_19 : decode cX5_town 19 = .ok (.invokestatic 44, 3) := by decide +kernel
theorem dX5_town_22 : decode cX5_town 22 = .ok (.aload_n 0, 1) := by decide +kernel
theorem dX5_town_23 : decode cX5_town 23 = .ok (.getfield 40, 3) := by decide +kernel
theorem dX5_town_26 : decode cX5_town 26 = .ok (.getfield 127, 3) := by decide +kernel
theorem dX5_town_29 : decode cX5_town 29 = .ok (.iconst 5, 1) := by decide +kernel
theorem dX5_town_30 : decode cX5_town 30 = .ok (.invokestatic 52, 3) := by decide +kernel
theorem dX5_town_33 : decode cX5_town 33 = .ok (.aload_n 0, 1) := by decide +kernel
theorem dX5_town_34 : decode cX5_town 34 = .ok (.getfield 40, 3) := by decide +kernel
theorem dX5_town_37 : decode cX5_town 37 = .ok (.iload_n 1, 1) := by decide +kernel
theorem dX5_town_38 : decode cX5_town 38 = .ok (.iload_n 2, 1) := by decide +kernel
theorem dX5_town_39 : decode cX5_town 39 = .ok (.iload_n 3, 1) := by decide +kernel
theorem dX5_town_40 : decode cX5_town 40 = .ok (.invokevirtual 130, 3) := by decide +kernel
theorem dX5_town_43 : decode cX5_town 43 = .ok (.ireturn, 1) := by decide +kernel
theorem dX5_night_0 : decode cX5_night 0 = .ok (.iload_n 1, 1) := by decide +kernel
theorem dX5_night_1 : decode cX5_night 1 = .ok (.aload_n 0, 1) := by decide +kernel
theorem dX5_night_2 : decode cX5_night 2 = .ok (.getfield 40, 3) := by decide +kernel
theorem dX5_night_5 : decode cX5_night 5 = .ok (.getfield 127, 3) := by decide +kernel
theorem dX5_night_8 : decode cX5_night 8 = .ok (.invokestatic 79, 3) := by decide +kernel
theorem dX5_night_11 : decode cX5_night 11 = .ok (.aload_n 0, 1) := by decide +kernel
theorem dX5_night_12 : decode cX5_night 12 = .ok (.getfield 26, 3) := by decide +kernel
theorem dX5_night_15 : decode cX5_night 15 = .ok (.aload_n 0, 1) := by decide +kernel
theorem dX5_night_16 : decode cX5_night 16 = .ok (.getfield 10, 3) := by decide +kernel
theorem dX5_night_19 : decode cX5_night 19 = .ok (.aload_n 0, 1) := by decide +kernel
theorem dX5_night_20 : decode cX5_night 20 = .ok (.getfield 19, 3) := by decide +kernel
theorem dX5_night_23 : decode cX5_night 23 = .ok (.invokevirtual 133, 3) := by decide +kernel
theorem dX5_night_26 : decode cX5_night 26 = .ok (.aload_n 0, 1) := by decide +kernel
theorem dX5_night_27 : decode cX5_night 27 = .ok (.getfield 26, 3) := by decide +kernel
theorem dX5_night_30 : decode cX5_night 30 = .ok (.invokevirtual 137, 3) := by decide +kernel
theorem dX5_night_33 : decode cX5_night 33 = .ok (.istore_n 2, 1) := by decide +kernel
theorem dX5_night_34 : decode cX5_night 34 = .ok (.iload_n 2, 1) := by decide +kernel
theorem dX5_night_35 : decode cX5_night 35 = .ok (.ifCond .ne 13, 3) := by decide +kernel
theorem dX5_night_38 : decode cX5_night 38 = .ok (.new 106, 3) := by decide +kernel
theorem dX5_night_41 : decode cX5_night 41 = .ok (.dup, 1) := by decide +kernel
theorem dX5_night_42 : decode cX5_night 42 = .ok (.ldc 140, 2) := by decide +kernel
theorem dX5_night_44 : decode cX5_night 44 = .ok (.invokespecial 110, 3) := by decide +kernel
theorem dX5_night_47 : decode cX5_night 47 = .ok (.athrow, 1) := by decide +kernel
theorem dX5_night_48 : decode cX5_night 48 = .ok (.aload_n 0, 1) := by decide +kernel
theorem dX5_night_49 : decode cX5_night 49 = .ok (.getfield 40, 3) := by decide +kernel
theorem dX5_night_52 : decode cX5_night 52 = .ok (.getfield 142, 3) := by decide +kernel
theorem dX5_night_55 : decode cX5_night 55 = .ok (.iload_n 1, 1) := by decide +kernel
theorem dX5_night_56 : decode cX5_night 56 = .ok (.iaload, 1) := by decide +kernel
theorem dX5_night_57 : decode cX5_night 57 = .ok (.istore_n 3, 1) := by decide +kernel
theorem dX5_night_58 : decode cX5_night 58 = .ok (.iconst 0, 1) := by decide +kernel
theorem dX5_night_59 : decode cX5_night 59 = .ok (.istore 4, 2) := by decide +kernel
theorem dX5_night_61 : decode cX5_night 61 = .ok (.iload 4, 2) := by decide +kernel
theorem dX5_night_63 : decode cX5_night 63 = .ok (.aload_n 0, 1) := by decide +kernel
theorem dX5_night_64 : decode cX5_night 64 = .ok (.getfield 19, 3) := by decide +kernel
theorem dX5_night_67 : decode cX5_night 67 = .ok (.getfield 66, 3) := by decide +kernel
theorem dX5_night_70 : decode cX5_night 70 = .ok (.if_icmp .ge 33, 3) := by decide +kernel
theorem dX5_night_73 : decode cX5_night 73 = .ok (.aload_n 0, 1) := by decide +kernel
theorem dX5_night_74 : decode cX5_night 74 = .ok (.getfield 19, 3) := by decide +kernel
theorem dX5_night_77 : decode cX5_night 77 = .ok (.getfield 119, 3) := by decide +kernel
theorem dX5_night_80 : decode cX5_night 80 = .ok (.iload 4, 2) := by decide +kernel
theorem dX5_night_82 : decode cX5_night 82 = .ok (.dup2, 1) := by decide +kernel
theorem dX5_night_83 : decode cX5_night 83 = .ok (.iaload, 1) := by decide +kernel
theorem dX5_night_84 : decode cX5_night 84 = .ok (.aload_n 0, 1) := by decide +kernel
theorem dX5_night_85 : decode cX5_night 85 = .ok (.getfield 19, 3) := by decide +kernel
theorem dX5_night_88 : decode cX5_night 88 = .ok (.iload_n 3, 1) := by decide +kernel
theorem dX5_night_89 : decode cX5_night 89 = .ok (.iload 4, 2) := by decide +kernel
theorem dX5_night_91 : decode cX5_night 91 = .ok (.iload_n 2, 1) := by decide +kernel
theorem dX5_night_92 : decode cX5_night 92 = .ok (.invokevirtual 145, 3) := by decide +kernel
theorem dX5_night_95 : decode cX5_night 95 = .ok (.iadd, 1) := by decide +kernel
theorem dX5_night_96 : decode cX5_night 96 = .ok (.iastore, 1) := by decide +kernel
theorem dX5_night_97 : decode cX5_night 97 = .ok (.iinc 4 1, 3) := by decide +kernel
theorem dX5_night_100 : decode cX5_night 100 = .ok (.goto (-39), 3) := by decide +kernel
theorem dX5_night_103 : decode cX5_night 103 = .ok (.aload_n 0, 1) := by decide +kernel
theorem dX5_night_104 : decode cX5_night 104 = .ok (.dup, 1) := by decide +kernel
theorem dX5_night_105 : decode cX5_night 105 = .ok (.getfield 113, 3) := by decide +kernel
theorem dX5_night_108 : decode cX5_night 108 = .ok (.iload_n 3, 1) := by decide +kernel
theorem dX5_night_109 : decode cX5_night 109 = .ok (.iadd, 1) := by decide +kernel
theorem dX5_night_110 : decode cX5_night 110 = .ok (.putfield 113, 3) := by decide +kernel
theorem dX5_night_113 : decode cX5_night 113 = .ok (.aload_n 0, 1) := by decide +kernel
theorem dX5_night_114 : decode cX5_night 114 = .ok (.dup, 1) := by decide +kernel
theorem dX5_night_115 : decode cX5_night 115 = .ok (.getfield 148, 3) := by decide +kernel
theorem dX5_night_118 : decode cX5_night 118 = .ok (.iconst 1, 1) := by decide +kernel
theorem dX5_night_119 : decode cX5_night 119 = .ok (.iadd, 1) := by decide +kernel
theorem dX5_night_120 : decode cX5_night 120 = .ok (.putfield 148, 3) := by decide +kernel
theorem dX5_night_123 : decode cX5_night 123 = .ok (.aload_n 0, 1) := by decide +kernel
theorem dX5_night_124 : decode cX5_night 124 = .ok (.getfield 40, 3) := by decide +kernel
theorem dX5_night_127 : decode cX5_night 127 = .ok (.getfield 142, 3) := by decide +kernel
theorem dX5_night_130 : decode cX5_night 130 = .ok (.iload_n 1, 1) := by decide +kernel
theorem dX5_night_131 : decode cX5_night 131 = .ok (.iload_n 3, 1) := by decide +kernel
theorem dX5_night_132 : decode cX5_night 132 = .ok (.iconst 2, 1) := by decide +kernel
theorem dX5_night_133 : decode cX5_night 133 = .ok (.idiv, 1) := by decide +kernel
theorem dX5_night_134 : decode cX5_night 134 = .ok (.iastore, 1) := by decide +kernel
theorem dX5_night_135 : decode cX5_night 135 = .ok (.iload_n 3, 1) := by decide +kernel
theorem dX5_night_136 : decode cX5_night 136 = .ok (.ireturn, 1) := by decide +kernel
theorem dX5_knock_0 : decode cX5_knock 0 = .ok (.aload_n 0, 1) := by decide +kernel
theorem dX5_knock_1 : decode cX5_knock 1 = .ok (.dup, 1) := by decide +kernel
theorem dX5_knock_2 : decode cX5_knock 2 = .ok (.getfield 151, 3) := by decide +kernel
theorem dX5_knock_5 : decode cX5_knock 5 = .ok (.iconst 1, 1) := by decide +kernel
theorem dX5_knock_6 : decode cX5_knock 6 = .ok (.iadd, 1) := by decide +kernel
theorem dX5_knock_7 : decode cX5_knock 7 = .ok (.putfield 151, 3) := by decide +kernel
theorem dX5_knock_10 : decode cX5_knock 10 = .ok (.aload_n 0, 1) := by decide +kernel
theorem dX5_knock_11 : decode cX5_knock 11 = .ok (.getfield 151, 3) := by decide +kernel
theorem dX5_knock_14 : decode cX5_knock 14 = .ok (.ireturn, 1) := by decide +kernel
theorem dX5_ofPart_0 : decode cX5_ofPart 0 = .ok (.iload_n 1, 1) := by decide +kernel
theorem dX5_ofPart_1 : decode cX5_ofPart 1 = .ok (.aload_n 0, 1) := by decide +kernel
theorem dX5_ofPart_2 : decode cX5_ofPart 2 = .ok (.getfield 10, 3) := by decide +kernel
theorem dX5_ofPart_5 : decode cX5_ofPart 5 = .ok (.getfield 48, 3) := by decide +kernel
theorem dX5_ofPart_8 : decode cX5_ofPart 8 = .ok (.invokestatic 79, 3) := by decide +kernel
theorem dX5_ofPart_11 : decode cX5_ofPart 11 = .ok (.iload_n 2, 1) := by decide +kernel
theorem dX5_ofPart_12 : decode cX5_ofPart 12 = .ok (.iconst 0, 1) := by decide +kernel
theorem dX5_ofPart_13 : decode cX5_ofPart 13 = .ok (.bipush 6, 2) := by decide +kernel
theorem dX5_ofPart_15 : decode cX5_ofPart 15 = .ok (.invokestatic 44, 3) := by decide +kernel
theorem dX5_ofPart_18 : decode cX5_ofPart 18 = .ok (.iload_n 2, 1) := by decide +kernel
theorem dX5_ofPart_19 : decode cX5_ofPart 19 = .ok (.tableswitch 108 0 5 #[37, 47, 57, 67, 76, 89], 37) := by decide +kernel
theorem dX5_ofPart_56 : decode cX5_ofPart 56 = .ok (.aload_n 0, 1) := by decide +kernel
theorem dX5_ofPart_57 : decode cX5_ofPart 57 = .ok (.getfield 10, 3) := by decide +kernel
theorem dX5_ofPart_60 : decode cX5_ofPart 60 = .ok (.getfield 154, 3) := by decide +kernel
theorem dX5_ofPart_63 : decode cX5_ofPart 63 = .ok (.iload_n 1, 1) := by decide +kernel
theorem dX5_ofPart_64 : decode cX5_ofPart 64 = .ok (.iaload, 1) := by decide +kernel
theorem dX5_ofPart_65 : decode cX5_ofPart 65 = .ok (.ireturn, 1) := by decide +kernel
theorem dX5_ofPart_66 : decode cX5_ofPart 66 = .ok (.aload_n 0, 1) := by decide +kernel
theorem dX5_ofPart_67 : decode cX5_ofPart 67 = .ok (.getfield 10, 3) := by decide +kernel
theorem dX5_ofPart_70 : decode cX5_ofPart 70 = .ok (.getfield 157, 3) := by decide +kernel
theorem dX5_ofPart_73 : decode cX5_ofPart 73 = .ok (.iload_n 1, 1) := by decide +kernel
theorem dX5_ofPart_74 : decode cX5_ofPart 74 = .ok (.iaload, 1) := by decide +kernel
theorem dX5_ofPart_75 : decode cX5_ofPart 75 = .ok (.ireturn, 1) := by decide +kernel
theorem dX5_ofPart_76 : decode cX5_ofPart 76 = .ok (.aload_n 0, 1) := by decide +kernel
theorem dX5_ofPart_77 : decode cX5_ofPart 77 = .ok (.getfield 10, 3) := by decide +kernel
theorem dX5_ofPart_80 : decode cX5_ofPart 80 = .ok (.getfield 160, 3) := by decide +kernel
theorem dX5_ofPart_83 : decode cX5_ofPart 83 = .ok (.iload_n 1, 1) := by decide +kernel
theorem dX5_ofPart_84 : decode cX5_ofPart 84 = .ok (.iaload, 1) := by decide +kernel
theorem dX5_ofPart_85 : decode cX5_ofPart 85 = .ok (.ireturn, 1) := by decide +kernel
theorem dX5_ofPart_86 : decode cX5_ofPart 86 = .ok (.aload_n 0, 1) := by decide +kernel
theorem dX5_ofPart_87 : decode cX5_ofPart 87 = .ok (.getfield 10, 3) := by decide +kernel
theorem dX5_ofPart_90 : decode cX5_ofPart 90 = .ok (.iload_n 1, 1) := by decide +kernel
theorem dX5_ofPart_91 : decode cX5_ofPart 91 = .ok (.invokevirtual 163, 3) := by decide +kernel
theorem dX5_ofPart_94 : decode cX5_ofPart 94 = .ok (.ireturn, 1) := by decide +kernel
theorem dX5_ofPart_95 : decode cX5_ofPart 95 = .ok (.aload_n 0, 1) := by decide +kernel
theorem dX5_ofPart_96 : decode cX5_ofPart 96 = .ok (.getfield 26, 3) := by decide +kernel
theorem dX5_ofPart_99 : decode cX5_ofPart 99 = .ok (.iload_n 1, 1) := by decide +kernel
theorem dX5_ofPart_100 : decode cX5_ofPart 100 = .ok (.aload_n 0, 1) := by decide +kernel
theorem dX5_ofPart_101 : decode cX5_ofPart 101 = .ok (.getfield 10, 3) := by decide +kernel
theorem dX5_ofPart_104 : decode cX5_ofPart 104 = .ok (.invokevirtual 167, 3) := by decide +kernel
theorem dX5_ofPart_107 : decode cX5_ofPart 107 = .ok (.ireturn, 1) := by decide +kernel
theorem dX5_ofPart_108 : decode cX5_ofPart 108 = .ok (.aload_n 0, 1) := by decide +kernel
theorem dX5_ofPart_109 : decode cX5_ofPart 109 = .ok (.getfield 19, 3) := by decide +kernel
theorem dX5_ofPart_112 : decode cX5_ofPart 112 = .ok (.iconst 1, 1) := by decide +kernel
theorem dX5_ofPart_113 : decode cX5_ofPart 113 = .ok (.aload_n 0, 1) := by decide +kernel
theorem dX5_ofPart_114 : decode cX5_ofPart 114 = .ok (.getfield 10, 3) := by decide +kernel
theorem dX5_ofPart_117 : decode cX5_ofPart 117 = .ok (.getfield 154, 3) := by decide +kernel
theorem dX5_ofPart_120 : decode cX5_ofPart 120 = .ok (.iload_n 1, 1) := by decide +kernel
theorem dX5_ofPart_121 : decode cX5_ofPart 121 = .ok (.iaload, 1) := by decide +kernel
theorem dX5_ofPart_122 : decode cX5_ofPart 122 = .ok (.ishl, 1) := by decide +kernel
theorem dX5_ofPart_123 : decode cX5_ofPart 123 = .ok (.invokevirtual 171, 3) := by decide +kernel
theorem dX5_ofPart_126 : decode cX5_ofPart 126 = .ok (.ireturn, 1) := by decide +kernel
theorem dX5_ofPart_127 : decode cX5_ofPart 127 = .ok (.aload_n 0, 1) := by decide +kernel
theorem dX5_ofPart_128 : decode cX5_ofPart 128 = .ok (.getfield 26, 3) := by decide +kernel
theorem dX5_ofPart_131 : decode cX5_ofPart 131 = .ok (.aload_n 0, 1) := by decide +kernel
theorem dX5_ofPart_132 : decode cX5_ofPart 132 = .ok (.getfield 10, 3) := by decide +kernel
theorem dX5_ofPart_135 : decode cX5_ofPart 135 = .ok (.aload_n 0, 1) := by decide +kernel
theorem dX5_ofPart_136 : decode cX5_ofPart 136 = .ok (.getfield 19, 3) := by decide +kernel
theorem dX5_ofPart_139 : decode cX5_ofPart 139 = .ok (.invokevirtual 133, 3) := by decide +kernel
theorem dX5_ofPart_142 : decode cX5_ofPart 142 = .ok (.aload_n 0, 1) := by decide +kernel
theorem dX5_ofPart_143 : decode cX5_ofPart 143 = .ok (.getfield 26, 3) := by decide +kernel
theorem dX5_ofPart_146 : decode cX5_ofPart 146 = .ok (.iload_n 1, 1) := by decide +kernel
theorem dX5_ofPart_147 : decode cX5_ofPart 147 = .ok (.invokevirtual 174, 3) := by decide +kernel
theorem dX5_ofPart_150 : decode cX5_ofPart 150 = .ok (.ireturn, 1) := by decide +kernel
theorem dX5_ofPlayer_0 : decode cX5_ofPlayer 0 = .ok (.iload_n 1, 1) := by decide +kernel
theorem dX5_ofPlayer_1 : decode cX5_ofPlayer 1 = .ok (.aload_n 0, 1) := by decide +kernel
theorem dX5_ofPlayer_2 : decode cX5_ofPlayer 2 = .ok (.getfield 19, 3) := by decide +kernel
theorem dX5_ofPlayer_5 : decode cX5_ofPlayer 5 = .ok (.getfield 66, 3) := by decide +kernel
theorem dX5_ofPlayer_8 : decode cX5_ofPlayer 8 = .ok (.invokestatic 79, 3) := by decide +kernel
theorem dX5_ofPlayer_11 : decode cX5_ofPlayer 11 = .ok (.iload_n 2, 1) := by decide +kernel
theorem dX5_ofPlayer_12 : decode cX5_ofPlayer 12 = .ok (.iconst 0, 1) := by decide +kernel
theorem dX5_ofPlayer_13 : decode cX5_ofPlayer 13 = .ok (.iconst 5, 1) := by decide +kernel
theorem dX5_ofPlayer_14 : decode cX5_ofPlayer 14 = .ok (.invokestatic 44, 3) := by decide +kernel
theorem dX5_ofPlayer_17 : decode cX5_ofPlayer 17 = .ok (.iload_n 2, 1) := by decide +kernel
theorem dX5_ofPlayer_18 : decode cX5_ofPlayer 18 = .ok (.tableswitch 109 0 4 #[34, 44, 54, 64, 84], 34) := by decide +kernel
theorem dX5_ofPlayer_52 : decode cX5_ofPlayer 52 = .ok (.aload_n 0, 1) := by decide +kernel
theorem dX5_ofPlayer_53 : decode cX5_ofPlayer 53 = .ok (.getfield 19, 3) := by decide +kernel
theorem dX5_ofPlayer_56 : decode cX5_ofPlayer 56 = .ok (.getfield 177, 3) := by decide +kernel
theorem dX5_ofPlayer_59 : decode cX5_ofPlayer 59 = .ok (.iload_n 1, 1) := by decide +kernel
theorem dX5_ofPlayer_60 : decode cX5_ofPlayer 60 = .ok (.iaload, 1) := by decide +kernel
theorem dX5_ofPlayer_61 : decode cX5_ofPlayer 61 = .ok (.ireturn, 1) := by decide +kernel
theorem dX5_ofPlayer_62 : decode cX5_ofPlayer 62 = .ok (.aload_n 0, 1) := by decide +kernel
theorem dX5_ofPlayer_63 : decode cX5_ofPlayer 63 = .ok (.getfield 19, 3) := by decide +kernel
theorem dX5_ofPlayer_66 : decode cX5_ofPlayer 66 = .ok (.getfield 180, 3) := by decide +kernel
theorem dX5_ofPlayer_69 : decode cX5_ofPlayer 69 = .ok (.iload_n 1, 1) := by decide +kernel
theorem dX5_ofPlayer_70 : decode cX5_ofPlayer 70 = .ok (.iaload, 1) := by decide +kernel
theorem dX5_ofPlayer_71 : decode cX5_ofPlayer 71 = .ok (.ireturn, 1) := by decide +kernel
theorem dX5_ofPlayer_72 : decode cX5_ofPlayer 72 = .ok (.aload_n 0, 1) := by decide +kernel
theorem dX5_ofPlayer_73 : decode cX5_ofPlayer 73 = .ok (.getfield 19, 3) := by decide +kernel
theorem dX5_ofPlayer_76 : decode cX5_ofPlayer 76 = .ok (.getfield 183, 3) := by decide +kernel
theorem dX5_ofPlayer_79 : decode cX5_ofPlayer 79 = .ok (.iload_n 1, 1) := by decide +kernel
theorem dX5_ofPlayer_80 : decode cX5_ofPlayer 80 = .ok (.iaload, 1) := by decide +kernel
theorem dX5_ofPlayer_81 : decode cX5_ofPlayer 81 = .ok (.ireturn, 1) := by decide +kernel
theorem dX5_ofPlayer_82 : decode cX5_ofPlayer 82 = .ok (.aload_n 0, 1) := by decide +kernel
theorem dX5_ofPlayer_83 : decode cX5_ofPlayer 83 = .ok (.getfield 19, 3) := by decide +kernel
theorem dX5_ofPlayer_86 : decode cX5_ofPlayer 86 = .ok (.getfield 86, 3) := by decide +kernel
theorem dX5_ofPlayer_89 : decode cX5_ofPlayer 89 = .ok (.iload_n 1, 1) := by decide +kernel
theorem dX5_ofPlayer_90 : decode cX5_ofPlayer 90 = .ok (.invokestatic 102, 3) := by decide +kernel
theorem dX5_ofPlayer_93 : decode cX5_ofPlayer 93 = .ok (.ifCond .eq 7, 3) := by decide +kernel
theorem dX5_ofPlayer_96 : decode cX5_ofPlayer 96 = .ok (.iconst 1, 1) := by decide +kernel
theorem dX5_ofPlayer_97 : decode cX5_ofPlayer 97 = .ok (.goto 4, 3) := by decide +kernel
theorem dX5_ofPlayer_100 : decode cX5_ofPlayer 100 = .ok (.iconst 0, 1) := by decide +kernel
theorem dX5_ofPlayer_101 : decode cX5_ofPlayer 101 = .ok (.ireturn, 1) := by decide +kernel
theorem dX5_ofPlayer_102 : decode cX5_ofPlayer 102 = .ok (.aload_n 0, 1) := by decide +kernel
theorem dX5_ofPlayer_103 : decode cX5_ofPlayer 103 = .ok (.getfield 26, 3) := by decide +kernel
theorem dX5_ofPlayer_106 : decode cX5_ofPlayer 106 = .ok (.aload_n 0, 1) := by decide +kernel
theorem dX5_ofPlayer_107 : decode cX5_ofPlayer 107 = .ok (.getfield 10, 3) := by decide +kernel
theorem dX5_ofPlayer_110 : decode cX5_ofPlayer 110 = .ok (.aload_n 0, 1) := by decide +kernel
theorem dX5_ofPlayer_111 : decode cX5_ofPlayer 111 = .ok (.getfield 19, 3) := by decide +kernel
theorem dX5_ofPlayer_114 : decode cX5_ofPlayer 114 = .ok (.invokevirtual 133, 3) := by decide +kernel
theorem dX5_ofPlayer_117 : decode cX5_ofPlayer 117 = .ok (.aload_n 0, 1) := by decide +kernel
theorem dX5_ofPlayer_118 : decode cX5_ofPlayer 118 = .ok (.getfield 26, 3) := by decide +kernel
theorem dX5_ofPlayer_121 : decode cX5_ofPlayer 121 = .ok (.getfield 186, 3) := by decide +kernel
theorem dX5_ofPlayer_124 : decode cX5_ofPlayer 124 = .ok (.iload_n 1, 1) := by decide +kernel
theorem dX5_ofPlayer_125 : decode cX5_ofPlayer 125 = .ok (.iaload, 1) := by decide +kernel
theorem dX5_ofPlayer_126 : decode cX5_ofPlayer 126 = .ok (.ireturn, 1) := by decide +kernel
theorem dX5_ofPlayer_127 : decode cX5_ofPlayer 127 = .ok (.aload_n 0, 1) := by decide +kernel
theorem dX5_ofPlayer_128 : decode cX5_ofPlayer 128 = .ok (.getfield 19, 3) := by decide +kernel
theorem dX5_ofPlayer_131 : decode cX5_ofPlayer 131 = .ok (.getfield 119, 3) := by decide +kernel
theorem dX5_ofPlayer_134 : decode cX5_ofPlayer 134 = .ok (.iload_n 1, 1) := by decide +kernel
theorem dX5_ofPlayer_135 : decode cX5_ofPlayer 135 = .ok (.iaload, 1) := by decide +kernel
theorem dX5_ofPlayer_136 : decode cX5_ofPlayer 136 = .ok (.ireturn, 1) := by decide +kernel
theorem dX5_ofScene_0 : decode cX5_ofScene 0 = .ok (.iload_n 1, 1) := by decide +kernel
theorem dX5_ofScene_1 : decode cX5_ofScene 1 = .ok (.aload_n 0, 1) := by decide +kernel
theorem dX5_ofScene_2 : decode cX5_ofScene 2 = .ok (.getfield 10, 3) := by decide +kernel
theorem dX5_ofScene_5 : decode cX5_ofScene 5 = .ok (.getfield 72, 3) := by decide +kernel
theorem dX5_ofScene_8 : decode cX5_ofScene 8 = .ok (.invokestatic 79, 3) := by decide +kernel
theorem dX5_ofScene_11 : decode cX5_ofScene 11 = .ok (.iload_n 2, 1) := by decide +kernel
theorem dX5_ofScene_12 : decode cX5_ofScene 12 = .ok (.iconst 0, 1) := by decide +kernel
theorem dX5_ofScene_13 : decode cX5_ofScene 13 = .ok (.iconst 5, 1) := by decide +kernel
theorem dX5_ofScene_14 : decode cX5_ofScene 14 = .ok (.invokestatic 44, 3) := by decide +kernel
theorem dX5_ofScene_17 : decode cX5_ofScene 17 = .ok (.aload_n 0, 1) := by decide +kernel
theorem dX5_ofScene_18 : decode cX5_ofScene 18 = .ok (.getfield 10, 3) := by decide +kernel
theorem dX5_ofScene_21 : decode cX5_ofScene 21 = .ok (.getfield 189, 3) := by decide +kernel
theorem dX5_ofScene_24 : decode cX5_ofScene 24 = .ok (.iload_n 1, 1) := by decide +kernel
theorem dX5_ofScene_25 : decode cX5_ofScene 25 = .ok (.iaload, 1) := by decide +kernel
theorem dX5_ofScene_26 : decode cX5_ofScene 26 = .ok (.istore_n 3, 1) := by decide +kernel
theorem dX5_ofScene_27 : decode cX5_ofScene 27 = .ok (.iload_n 2, 1) := by decide +kernel
theorem dX5_ofScene_28 : decode cX5_ofScene 28 = .ok (.tableswitch 70 0 4 #[36, 38, 48, 54, 60], 36) := by decide +kernel
theorem dX5_ofScene_64 : decode cX5_ofScene 64 = .ok (.iload_n 3, 1) := by decide +kernel
theorem dX5_ofScene_65 : decode cX5_ofScene 65 = .ok (.ireturn, 1) := by decide +kernel
theorem dX5_ofScene_66 : decode cX5_ofScene 66 = .ok (.aload_n 0, 1) := by decide +kernel
theorem dX5_ofScene_67 : decode cX5_ofScene 67 = .ok (.getfield 10, 3) := by decide +kernel
theorem dX5_ofScene_70 : decode cX5_ofScene 70 = .ok (.getfield 82, 3) := by decide +kernel
theorem dX5_ofScene_73 : decode cX5_ofScene 73 = .ok (.iload_n 1, 1) := by decide +kernel
theorem dX5_ofScene_74 : decode cX5_ofScene 74 = .ok (.iaload, 1) := by decide +kernel
theorem dX5_ofScene_75 : decode cX5_ofScene 75 = .ok (.ireturn, 1) := by decide +kernel
theorem dX5_ofScene_76 : decode cX5_ofScene 76 = .ok (.aload_n 0, 1) := by decide +kernel
theorem dX5_ofScene_77 : decode cX5_ofScene 77 = .ok (.iload_n 3, 1) := by decide +kernel
theorem dX5_ofScene_78 : decode cX5_ofScene 78 = .ok (.invokevirtual 192, 3) := by decide +kernel
theorem dX5_ofScene_81 : decode cX5_ofScene 81 = .ok (.ireturn, 1) := by decide +kernel
theorem dX5_ofScene_82 : decode cX5_ofScene 82 = .ok (.aload_n 0, 1) := by decide +kernel
theorem dX5_ofScene_83 : decode cX5_ofScene 83 = .ok (.iload_n 3, 1) := by decide +kernel
theorem dX5_ofScene_84 : decode cX5_ofScene 84 = .ok (.invokevirtual 195, 3) := by decide +kernel
theorem dX5_ofScene_87 : decode cX5_ofScene 87 = .ok (.ireturn, 1) := by decide +kernel
theorem dX5_ofScene_88 : decode cX5_ofScene 88 = .ok (.aload_n 0, 1) := by decide +kernel
theorem dX5_ofScene_89 : decode cX5_ofScene 89 = .ok (.aload_n 0, 1) := by decide +kernel
theorem dX5_ofScene_90 : decode cX5_ofScene 90 = .ok (.iload_n 3, 1) := by decide +kernel
theorem dX5_ofScene_91 : decode cX5_ofScene 91 = .ok (.invokevirtual 195, 3) := by decide +kernel
theorem dX5_ofScene_94 : decode cX5_ofScene 94 = .ok (.invokevirtual 198, 3) := by decide +kernel
theorem dX5_ofScene_97 : decode cX5_ofScene 97 = .ok (.ireturn, 1) := by decide +kernel
theorem dX5_ofScene_98 : decode cX5_ofScene 98 = .ok (.aload_n 0, 1) := by decide +kernel
theorem dX5_ofScene_99 : decode cX5_ofScene 99 = .ok (.getfield 26, 3) := by decide +kernel
theorem dX5_ofScene_102 : decode cX5_ofScene 102 = .ok (.aload_n 0, 1) := by decide +kernel
theorem dX5_ofScene_103 : decode cX5_ofScene 103 = .ok (.getfield 10, 3) := by decide +kernel
theorem dX5_ofScene_106 : decode cX5_ofScene 106 = .ok (.aload_n 0, 1) := by decide +kernel
theorem dX5_ofScene_107 : decode cX5_ofScene 107 = .ok (.getfield 19, 3) := by decide +kernel
theorem dX5_ofScene_110 : decode cX5_ofScene 110 = .ok (.invokevirtual 133, 3) := by decide +kernel
theorem dX5_ofScene_113 : decode cX5_ofScene 113 = .ok (.aload_n 0, 1) := by decide +kernel
theorem dX5_ofScene_114 : decode cX5_ofScene 114 = .ok (.iload_n 3, 1) := by decide +kernel
theorem dX5_ofScene_115 : decode cX5_ofScene 115 = .ok (.invokevirtual 201, 3) := by decide +kernel
theorem dX5_ofScene_118 : decode cX5_ofScene 118 = .ok (.ireturn, 1) := by decide +kernel
theorem dX5_ofCoat_0 : decode cX5_ofCoat 0 = .ok (.iload_n 1, 1) := by decide +kernel
theorem dX5_ofCoat_1 : decode cX5_ofCoat 1 = .ok (.aload_n 0, 1) := by decide +kernel
theorem dX5_ofCoat_2 : decode cX5_ofCoat 2 = .ok (.getfield 33, 3) := by decide +kernel
theorem dX5_ofCoat_5 : decode cX5_ofCoat 5 = .ok (.getfield 93, 3) := by decide +kernel
theorem dX5_ofCoat_8 : decode cX5_ofCoat 8 = .ok (.invokestatic 79, 3) := by decide +kernel
theorem dX5_ofCoat_11 : decode cX5_ofCoat 11 = .ok (.iload_n 2, 1) := by decide +kernel
theorem dX5_ofCoat_12 : decode cX5_ofCoat 12 = .ok (.iconst 0, 1) := by decide +kernel
theorem dX5_ofCoat_13 : decode cX5_ofCoat 13 = .ok (.iconst 3, 1) := by decide +kernel
theorem dX5_ofCoat_14 : decode cX5_ofCoat 14 = .ok (.invokestatic 44, 3) := by decide +kernel
theorem dX5_ofCoat_17 : decode cX5_ofCoat 17 = .ok (.iload_n 2, 1) := by decide +kernel
theorem dX5_ofCoat_18 : decode cX5_ofCoat 18 = .ok (.tableswitch 56 0 2 #[26, 36, 46], 26) := by decide +kernel
theorem dX5_ofCoat_44 : decode cX5_ofCoat 44 = .ok (.aload_n 0, 1) := by decide +kernel
theorem dX5_ofCoat_45 : decode cX5_ofCoat 45 = .ok (.getfield 33, 3) := by decide +kernel
theorem dX5_ofCoat_48 : decode cX5_ofCoat 48 = .ok (.getfield 204, 3) := by decide +kernel
theorem dX5_ofCoat_51 : decode cX5_ofCoat 51 = .ok (.iload_n 1, 1) := by decide +kernel
theorem dX5_ofCoat_52 : decode cX5_ofCoat 52 = .ok (.iaload, 1) := by decide +kernel
theorem dX5_ofCoat_53 : decode cX5_ofCoat 53 = .ok (.ireturn, 1) := by decide +kernel
theorem dX5_ofCoat_54 : decode cX5_ofCoat 54 = .ok (.aload_n 0, 1) := by decide +kernel
theorem dX5_ofCoat_55 : decode cX5_ofCoat 55 = .ok (.getfield 33, 3) := by decide +kernel
theorem dX5_ofCoat_58 : decode cX5_ofCoat 58 = .ok (.getfield 205, 3) := by decide +kernel
theorem dX5_ofCoat_61 : decode cX5_ofCoat 61 = .ok (.iload_n 1, 1) := by decide +kernel
theorem dX5_ofCoat_62 : decode cX5_ofCoat 62 = .ok (.iaload, 1) := by decide +kernel
theorem dX5_ofCoat_63 : decode cX5_ofCoat 63 = .ok (.ireturn, 1) := by decide +kernel
theorem dX5_ofCoat_64 : decode cX5_ofCoat 64 = .ok (.aload_n 0, 1) := by decide +kernel
theorem dX5_ofCoat_65 : decode cX5_ofCoat 65 = .ok (.getfield 33, 3) := by decide +kernel
theorem dX5_ofCoat_68 : decode cX5_ofCoat 68 = .ok (.getfield 116, 3) := by decide +kernel
theorem dX5_ofCoat_71 : decode cX5_ofCoat 71 = .ok (.iload_n 1, 1) := by decide +kernel
theorem dX5_ofCoat_72 : decode cX5_ofCoat 72 = .ok (.iaload, 1) := by decide +kernel
theorem dX5_ofCoat_73 : decode cX5_ofCoat 73 = .ok (.ireturn, 1) := by decide +kernel
theorem dX5_ofCoat_74 : decode cX5_ofCoat 74 = .ok (.aload_n 0, 1) := by decide +kernel
theorem dX5_ofCoat_75 : decode cX5_ofCoat 75 = .ok (.getfield 33, 3) := by decide +kernel
theorem dX5_ofCoat_78 : decode cX5_ofCoat 78 = .ok (.getfield 99, 3) := by decide +kernel
theorem dX5_ofCoat_81 : decode cX5_ofCoat 81 = .ok (.iload_n 1, 1) := by decide +kernel
theorem dX5_ofCoat_82 : decode cX5_ofCoat 82 = .ok (.invokestatic 102, 3) := by decide +kernel
theorem dX5_ofCoat_85 : decode cX5_ofCoat 85 = .ok (.ifCond .eq 7, 3) := by decide +kernel
theorem dX5_ofCoat_88 : decode cX5_ofCoat 88 = .ok (.iconst 1, 1) := by decide +kernel
theorem dX5_ofCoat_89 : decode cX5_ofCoat 89 = .ok (.goto 4, 3) := by decide +kernel
theorem dX5_ofCoat_92 : decode cX5_ofCoat 92 = .ok (.iconst 0, 1) := by decide +kernel
theorem dX5_ofCoat_93 : decode cX5_ofCoat 93 = .ok (.ireturn, 1) := by decide +kernel
theorem dX5_ofTown_0 : decode cX5_ofTown 0 = .ok (.iload_n 1, 1) := by decide +kernel
theorem dX5_ofTown_1 : decode cX5_ofTown 1 = .ok (.aload_n 0, 1) := by decide +kernel
theorem dX5_ofTown_2 : decode cX5_ofTown 2 = .ok (.getfield 40, 3) := by decide +kernel
theorem dX5_ofTown_5 : decode cX5_ofTown 5 = .ok (.getfield 127, 3) := by decide +kernel
theorem dX5_ofTown_8 : decode cX5_ofTown 8 = .ok (.invokestatic 79, 3) := by decide +kernel
theorem dX5_ofTown_11 : decode cX5_ofTown 11 = .ok (.iload_n 2, 1) := by decide +kernel
theorem dX5_ofTown_12 : decode cX5_ofTown 12 = .ok (.iconst 0, 1) := by decide +kernel
theorem dX5_ofTown_13 : decode cX5_ofTown 13 = .ok (.iconst 3, 1) := by decide +kernel
theorem dX5_ofTown_14 : decode cX5_ofTown 14 = .ok (.invokestatic 44, 3) := by decide +kernel
theorem dX5_ofTown_17 : decode cX5_ofTown 17 = .ok (.iload_n 2, 1) := by decide +kernel
theorem dX5_ofTown_18 : decode cX5_ofTown 18 = .ok (.tableswitch 56 0 2 #[26, 36, 46], 26) := by decide +kernel
theorem dX5_ofTown_44 : decode cX5_ofTown 44 = .ok (.aload_n 0, 1) := by decide +kernel
theorem dX5_ofTown_45 : decode cX5_ofTown 45 = .ok (.getfield 40, 3) := by decide +kernel
theorem dX5_ofTown_48 : decode cX5_ofTown 48 = .ok (.getfield 206, 3) := by decide +kernel
theorem dX5_ofTown_51 : decode cX5_ofTown 51 = .ok (.iload_n 1, 1) := by decide +kernel
theorem dX5_ofTown_52 : decode cX5_ofTown 52 = .ok (.iaload, 1) := by decide +kernel
theorem dX5_ofTown_53 : decode cX5_ofTown 53 = .ok (.ireturn, 1) := by decide +kernel
theorem dX5_ofTown_54 : decode cX5_ofTown 54 = .ok (.aload_n 0, 1) := by decide +kernel
theorem dX5_ofTown_55 : decode cX5_ofTown 55 = .ok (.getfield 40, 3) := by decide +kernel
theorem dX5_ofTown_58 : decode cX5_ofTown 58 = .ok (.getfield 209, 3) := by decide +kernel
theorem dX5_ofTown_61 : decode cX5_ofTown 61 = .ok (.iload_n 1, 1) := by decide +kernel
theorem dX5_ofTown_62 : decode cX5_ofTown 62 = .ok (.iaload, 1) := by decide +kernel
theorem dX5_ofTown_63 : decode cX5_ofTown 63 = .ok (.ireturn, 1) := by decide +kernel
theorem dX5_ofTown_64 : decode cX5_ofTown 64 = .ok (.aload_n 0, 1) := by decide +kernel
theorem dX5_ofTown_65 : decode cX5_ofTown 65 = .ok (.getfield 40, 3) := by decide +kernel
theorem dX5_ofTown_68 : decode cX5_ofTown 68 = .ok (.getfield 142, 3) := by decide +kernel
theorem dX5_ofTown_71 : decode cX5_ofTown 71 = .ok (.iload_n 1, 1) := by decide +kernel
theorem dX5_ofTown_72 : decode cX5_ofTown 72 = .ok (.iaload, 1) := by decide +kernel
theorem dX5_ofTown_73 : decode cX5_ofTown 73 = .ok (.ireturn, 1) := by decide +kernel
theorem dX5_ofTown_74 : decode cX5_ofTown 74 = .ok (.aload_n 0, 1) := by decide +kernel
theorem dX5_ofTown_75 : decode cX5_ofTown 75 = .ok (.getfield 40, 3) := by decide +kernel
theorem dX5_ofTown_78 : decode cX5_ofTown 78 = .ok (.iload_n 1, 1) := by decide +kernel
theorem dX5_ofTown_79 : decode cX5_ofTown 79 = .ok (.invokevirtual 212, 3) := by decide +kernel
theorem dX5_ofTown_82 : decode cX5_ofTown 82 = .ok (.ireturn, 1) := by decide +kernel
theorem dX5_house_0 : decode cX5_house 0 = .ok (.iload_n 1, 1) := by decide +kernel
theorem dX5_house_1 : decode cX5_house 1 = .ok (.iconst 0, 1) := by decide +kernel
theorem dX5_house_2 : decode cX5_house 2 = .ok (.bipush 13, 2) := by decide +kernel
theorem dX5_house_4 : decode cX5_house 4 = .ok (.invokestatic 44, 3) := by decide +kernel
theorem dX5_house_7 : decode cX5_house 7 = .ok (.iload_n 1, 1) := by decide +kernel
theorem dX5_house_8 : decode cX5_house 8 = .ok (.tableswitch 196 0 12 #[68, 76, 84, 92, 100, 108, 119, 127, 150, 173, 178, 183, 191], 68) := by decide +kernel
theorem dX5_house_76 : decode cX5_house 76 = .ok (.aload_n 0, 1) := by decide +kernel
theorem dX5_house_77 : decode cX5_house 77 = .ok (.getfield 10, 3) := by decide +kernel
theorem dX5_house_80 : decode cX5_house 80 = .ok (.getfield 48, 3) := by decide +kernel
theorem dX5_house_83 : decode cX5_house 83 = .ok (.ireturn, 1) := by decide +kernel
theorem dX5_house_84 : decode cX5_house 84 = .ok (.aload_n 0, 1) := by decide +kernel
theorem dX5_house_85 : decode cX5_house 85 = .ok (.getfield 19, 3) := by decide +kernel
theorem dX5_house_88 : decode cX5_house 88 = .ok (.getfield 66, 3) := by decide +kernel
theorem dX5_house_91 : decode cX5_house 91 = .ok (.ireturn, 1) := by decide +kernel
theorem dX5_house_92 : decode cX5_house 92 = .ok (.aload_n 0, 1) := by decide +kernel
theorem dX5_house_93 : decode cX5_house 93 = .ok (.getfield 19, 3) := by decide +kernel
theorem dX5_house_96 : decode cX5_house 96 = .ok (.invokevirtual 89, 3) := by decide +kernel
theorem dX5_house_99 : decode cX5_house 99 = .ok (.ireturn, 1) := by decide +kernel
theorem dX5_house_100 : decode cX5_house 100 = .ok (.aload_n 0, 1) := by decide +kernel
theorem dX5_house_101 : decode cX5_house 101 = .ok (.getfield 10, 3) := by decide +kernel
theorem dX5_house_104 : decode cX5_house 104 = .ok (.getfield 72, 3) := by decide +kernel
theorem dX5_house_107 : decode cX5_house 107 = .ok (.ireturn, 1) := by decide +kernel
theorem dX5_house_108 : decode cX5_house 108 = .ok (.aload_n 0, 1) := by decide +kernel
theorem dX5_house_109 : decode cX5_house 109 = .ok (.getfield 33, 3) := by decide +kernel
theorem dX5_house_112 : decode cX5_house 112 = .ok (.getfield 93, 3) := by decide +kernel
theorem dX5_house_115 : decode cX5_house 115 = .ok (.ireturn, 1) := by decide +kernel
theorem dX5_house_116 : decode cX5_house 116 = .ok (.aload_n 0, 1) := by decide +kernel
theorem dX5_house_117 : decode cX5_house 117 = .ok (.getfield 33, 3) := by decide +kernel
theorem dX5_house_120 : decode cX5_house 120 = .ok (.getfield 99, 3) := by decide +kernel
theorem dX5_house_123 : decode cX5_house 123 = .ok (.invokestatic 215, 3) := by decide +kernel
theorem dX5_house_126 : decode cX5_house 126 = .ok (.ireturn, 1) := by decide +kernel
theorem dX5_house_127 : decode cX5_house 127 = .ok (.aload_n 0, 1) := by decide +kernel
theorem dX5_house_128 : decode cX5_house 128 = .ok (.getfield 40, 3) := by decide +kernel
theorem dX5_house_131 : decode cX5_house 131 = .ok (.getfield 127, 3) := by decide +kernel
theorem dX5_house_134 : decode cX5_house 134 = .ok (.ireturn, 1) := by decide +kernel
theorem dX5_house_135 : decode cX5_house 135 = .ok (.aload_n 0, 1) := by decide +kernel
theorem dX5_house_136 : decode cX5_house 136 = .ok (.getfield 26, 3) := by decide +kernel
theorem dX5_house_139 : decode cX5_house 139 = .ok (.aload_n 0, 1) := by decide +kernel
theorem dX5_house_140 : decode cX5_house 140 = .ok (.getfield 10, 3) := by decide +kernel
theorem dX5_house_143 : decode cX5_house 143 = .ok (.aload_n 0, 1) := by decide +kernel
theorem dX5_house_144 : decode cX5_house 144 = .ok (.getfield 19, 3) := by decide +kernel
theorem dX5_house_147 : decode cX5_house 147 = .ok (.invokevirtual 133, 3) := by decide +kernel
theorem dX5_house_150 : decode cX5_house 150 = .ok (.aload_n 0, 1) := by decide +kernel
theorem dX5_house_151 : decode cX5_house 151 = .ok (.getfield 26, 3) := by decide +kernel
theorem dX5_house_154 : decode cX5_house 154 = .ok (.getfield 220, 3) := by decide +kernel
theorem dX5_house_157 : decode cX5_house 157 = .ok (.ireturn, 1) := by decide +kernel
theorem dX5_house_158 : decode cX5_house 158 = .ok (.aload_n 0, 1) := by decide +kernel
theorem dX5_house_159 : decode cX5_house 159 = .ok (.getfield 26, 3) := by decide +kernel
theorem dX5_house_162 : decode cX5_house 162 = .ok (.aload_n 0, 1) := by decide +kernel
theorem dX5_house_163 : decode cX5_house 163 = .ok (.getfield 10, 3) := by decide +kernel
theorem dX5_house_166 : decode cX5_house 166 = .ok (.aload_n 0, 1) := by decide +kernel
theorem dX5_house_167 : decode cX5_house 167 = .ok (.getfield 19, 3) := by decide +kernel
theorem dX5_house_170 : decode cX5_house 170 = .ok (.invokevirtual 133, 3) := by decide +kernel
theorem dX5_house_173 : decode cX5_house 173 = .ok (.aload_n 0, 1) := by decide +kernel
theorem dX5_house_174 : decode cX5_house 174 = .ok (.getfield 26, 3) := by decide +kernel
theorem dX5_house_177 : decode cX5_house 177 = .ok (.getfield 223, 3) := by decide +kernel
theorem dX5_house_180 : decode cX5_house 180 = .ok (.ireturn, 1) := by decide +kernel
theorem dX5_house_181 : decode cX5_house 181 = .ok (.aload_n 0, 1) := by decide +kernel
theorem dX5_house_182 : decode cX5_house 182 = .ok (.getfield 113, 3) := by decide +kernel
theorem dX5_house_185 : decode cX5_house 185 = .ok (.ireturn, 1) := by decide +kernel
theorem dX5_house_186 : decode cX5_house 186 = .ok (.aload_n 0, 1) := by decide +kernel
theorem dX5_house_187 : decode cX5_house 187 = .ok (.getfield 124, 3) := by decide +kernel
theorem dX5_house_190 : decode cX5_house 190 = .ok (.ireturn, 1) := by decide +kernel
theorem dX5_house_191 : decode cX5_house 191 = .ok (.aload_n 0, 1) := by decide +kernel
theorem dX5_house_192 : decode cX5_house 192 = .ok (.getfield 19, 3) := by decide +kernel
theorem dX5_house_195 : decode cX5_house 195 = .ok (.invokevirtual 226, 3) := by decide +kernel
theorem dX5_house_198 : decode cX5_house 198 = .ok (.ireturn, 1) := by decide +kernel
theorem dX5_house_199 : decode cX5_house 199 = .ok (.aload_n 0, 1) := by decide +kernel
theorem dX5_house_200 : decode cX5_house 200 = .ok (.getfield 148, 3) := by decide +kernel
theorem dX5_house_203 : decode cX5_house 203 = .ok (.ireturn, 1) := by decide +kernel
theorem dX5_house_204 : decode cX5_house 204 = .ok (.aload_n 0, 1) := by decide +kernel
theorem dX5_house_205 : decode cX5_house 205 = .ok (.getfield 151, 3) := by decide +kernel
theorem dX5_house_208 : decode cX5_house 208 = .ok (.ireturn, 1) := by decide +kernel
theorem dX5_cast_0 : decode cX5_cast 0 = .ok (.aload_n 0, 1) := by decide +kernel
theorem dX5_cast_1 : decode cX5_cast 1 = .ok (.getfield 26, 3) := by decide +kernel
theorem dX5_cast_4 : decode cX5_cast 4 = .ok (.aload_n 0, 1) := by decide +kernel
theorem dX5_cast_5 : decode cX5_cast 5 = .ok (.getfield 10, 3) := by decide +kernel
theorem dX5_cast_8 : decode cX5_cast 8 = .ok (.aload_n 0, 1) := by decide +kernel
theorem dX5_cast_9 : decode cX5_cast 9 = .ok (.getfield 19, 3) := by decide +kernel
theorem dX5_cast_12 : decode cX5_cast 12 = .ok (.invokevirtual 133, 3) := by decide +kernel
theorem dX5_cast_15 : decode cX5_cast 15 = .ok (.aload_n 0, 1) := by decide +kernel
theorem dX5_cast_16 : decode cX5_cast 16 = .ok (.getfield 26, 3) := by decide +kernel
theorem dX5_cast_19 : decode cX5_cast 19 = .ok (.getfield 220, 3) := by decide +kernel
theorem dX5_cast_22 : decode cX5_cast 22 = .ok (.iconst (-1), 1) := by decide +kernel
theorem dX5_cast_23 : decode cX5_cast 23 = .ok (.if_icmp .ne 6, 3) := by decide +kernel
theorem dX5_cast_26 : decode cX5_cast 26 = .ok (.ldc 229, 2) := by decide +kernel
theorem dX5_cast_28 : decode cX5_cast 28 = .ok (.areturn, 1) := by decide +kernel
theorem dX5_cast_29 : decode cX5_cast 29 = .ok (.new 231, 3) := by decide +kernel
theorem dX5_cast_32 : decode cX5_cast 32 = .ok (.dup, 1) := by decide +kernel
theorem dX5_cast_33 : decode cX5_cast 33 = .ok (.invokespecial 233, 3) := by decide +kernel
theorem dX5_cast_36 : decode cX5_cast 36 = .ok (.astore_n 1, 1) := by decide +kernel
theorem dX5_cast_37 : decode cX5_cast 37 = .ok (.iconst 0, 1) := by decide +kernel
theorem dX5_cast_38 : decode cX5_cast 38 = .ok (.istore_n 2, 1) := by decide +kernel
theorem dX5_cast_39 : decode cX5_cast 39 = .ok (.iload_n 2, 1) := by decide +kernel
theorem dX5_cast_40 : decode cX5_cast 40 = .ok (.aload_n 0, 1) := by decide +kernel
theorem dX5_cast_41 : decode cX5_cast 41 = .ok (.getfield 10, 3) := by decide +kernel
theorem dX5_cast_44 : decode cX5_cast 44 = .ok (.getfield 48, 3) := by decide +kernel
theorem dX5_cast_47 : decode cX5_cast 47 = .ok (.if_icmp .ge 38, 3) := by decide +kernel
theorem dX5_cast_50 : decode cX5_cast 50 = .ok (.aload_n 0, 1) := by decide +kernel
theorem dX5_cast_51 : decode cX5_cast 51 = .ok (.getfield 26, 3) := by decide +kernel
theorem dX5_cast_54 : decode cX5_cast 54 = .ok (.iload_n 2, 1) := by decide +kernel
theorem dX5_cast_55 : decode cX5_cast 55 = .ok (.invokevirtual 174, 3) := by decide +kernel
theorem dX5_cast_58 : decode cX5_cast 58 = .ok (.istore_n 3, 1) := by decide +kernel
theorem dX5_cast_59 : decode cX5_cast 59 = .ok (.aload_n 1, 1) := by decide +kernel
theorem dX5_cast_60 : decode cX5_cast 60 = .ok (.iload_n 3, 1) := by decide +kernel
theorem dX5_cast_61 : decode cX5_cast 61 = .ok (.iconst (-1), 1) := by decide +kernel
theorem dX5_cast_62 : decode cX5_cast 62 = .ok (.if_icmp .ne 8, 3) := by decide +kernel
theorem dX5_cast_65 : decode cX5_cast 65 = .ok (.bipush 46, 2) := by decide +kernel
theorem dX5_cast_67 : decode cX5_cast 67 = .ok (.goto 8, 3) := by decide +kernel
theorem dX5_cast_70 : decode cX5_cast 70 = .ok (.bipush 48, 2) := by decide +kernel
theorem dX5_cast_72 : decode cX5_cast 72 = .ok (.iload_n 3, 1) := by decide +kernel
theorem dX5_cast_73 : decode cX5_cast 73 = .ok (.iadd, 1) := by decide +kernel
theorem dX5_cast_74 : decode cX5_cast 74 = .ok (.i2c, 1) := by decide +kernel
theorem dX5_cast_75 : decode cX5_cast 75 = .ok (.invokevirtual 234, 3) := by decide +kernel
theorem dX5_cast_78 : decode cX5_cast 78 = .ok (.pop, 1) := by decide +kernel
theorem dX5_cast_79 : decode cX5_cast 79 = .ok (.iinc 2 1, 3) := by decide +kernel
theorem dX5_cast_82 : decode cX5_cast 82 = .ok (.goto (-43), 3) := by decide +kernel
theorem dX5_cast_85 : decode cX5_cast 85 = .ok (.aload_n 1, 1) := by decide +kernel
theorem dX5_cast_86 : decode cX5_cast 86 = .ok (.invokevirtual 238, 3) := by decide +kernel
theorem dX5_cast_89 : decode cX5_cast 89 = .ok (.areturn, 1) := by decide +kernel
theorem dX5_tour_0 : decode cX5_tour 0 = .ok (.iload_n 1, 1) := by decide +kernel
theorem dX5_tour_1 : decode cX5_tour 1 = .ok (.iconst 0, 1) := by decide +kernel
theorem dX5_tour_2 : decode cX5_tour 2 = .ok (.sipush 2000, 3) := by decide +kernel
theorem dX5_tour_5 : decode cX5_tour 5 = .ok (.invokestatic 44, 3) := by decide +kernel
theorem dX5_tour_8 : decode cX5_tour 8 = .ok (.iload_n 2, 1) := by decide +kernel
theorem dX5_tour_9 : decode cX5_tour 9 = .ok (.iconst 0, 1) := by decide +kernel
theorem dX5_tour_10 : decode cX5_tour 10 = .ok (.iconst 2, 1) := by decide +kernel
theorem dX5_tour_11 : decode cX5_tour 11 = .ok (.invokestatic 44, 3) := by decide +kernel
theorem dX5_tour_14 : decode cX5_tour 14 = .ok (.aload_n 0, 1) := by decide +kernel
theorem dX5_tour_15 : decode cX5_tour 15 = .ok (.getfield 40, 3) := by decide +kernel
theorem dX5_tour_18 : decode cX5_tour 18 = .ok (.iload_n 1, 1) := by decide +kernel
theorem dX5_tour_19 : decode cX5_tour 19 = .ok (.invokevirtual 242, 3) := by decide +kernel
theorem dX5_tour_22 : decode cX5_tour 22 = .ok (.istore_n 3, 1) := by decide +kernel
theorem dX5_tour_23 : decode cX5_tour 23 = .ok (.iload_n 2, 1) := by decide +kernel
theorem dX5_tour_24 : decode cX5_tour 24 = .ok (.lookupswitch 39 #[(0, 28), (1, 30)], 28) := by decide +kernel
theorem dX5_tour_52 : decode cX5_tour 52 = .ok (.iload_n 3, 1) := by decide +kernel
theorem dX5_tour_53 : decode cX5_tour 53 = .ok (.ireturn, 1) := by decide +kernel
theorem dX5_tour_54 : decode cX5_tour 54 = .ok (.aload_n 0, 1) := by decide +kernel
theorem dX5_tour_55 : decode cX5_tour 55 = .ok (.getfield 40, 3) := by decide +kernel
theorem dX5_tour_58 : decode cX5_tour 58 = .ok (.iload_n 3, 1) := by decide +kernel
theorem dX5_tour_59 : decode cX5_tour 59 = .ok (.invokevirtual 245, 3) := by decide +kernel
theorem dX5_tour_62 : decode cX5_tour 62 = .ok (.ireturn, 1) := by decide +kernel
theorem dX5_tour_63 : decode cX5_tour 63 = .ok (.aload_n 0, 1) := by decide +kernel
theorem dX5_tour_64 : decode cX5_tour 64 = .ok (.getfield 40, 3) := by decide +kernel
theorem dX5_tour_67 : decode cX5_tour 67 = .ok (.getfield 248, 3) := by decide +kernel
theorem dX5_tour_70 : decode cX5_tour 70 = .ok (.iload_n 3, 1) := by decide +kernel
theorem dX5_tour_71 : decode cX5_tour 71 = .ok (.iaload, 1) := by decide +kernel
theorem dX5_tour_72 : decode cX5_tour 72 = .ok (.ireturn, 1) := by decide +kernel
theorem dX5_would_0 : decode cX5_would 0 = .ok (.iload_n 1, 1) := by decide +kernel
theorem dX5_would_1 : decode cX5_would 1 = .ok (.aload_n 0, 1) := by decide +kernel
theorem dX5_would_2 : decode cX5_would 2 = .ok (.getfield 10, 3) := by decide +kernel
theorem dX5_would_5 : decode cX5_would 5 = .ok (.getfield 72, 3) := by decide +kernel
theorem dX5_would_8 : decode cX5_would 8 = .ok (.invokestatic 63, 3) := by decide +kernel
theorem dX5_would_11 : decode cX5_would 11 = .ok (.aload_n 0, 1) := by decide +kernel
theorem dX5_would_12 : decode cX5_would 12 = .ok (.getfield 26, 3) := by decide +kernel
theorem dX5_would_15 : decode cX5_would 15 = .ok (.aload_n 0, 1) := by decide +kernel
theorem dX5_would_16 : decode cX5_would 16 = .ok (.getfield 10, 3) := by decide +kernel
theorem dX5_would_19 : decode cX5_would 19 = .ok (.aload_n 0, 1) := by decide +kernel
theorem dX5_would_20 : decode cX5_would 20 = .ok (.getfield 19, 3) := by decide +kernel
theorem dX5_would_23 : decode cX5_would 23 = .ok (.aload_n 0, 1) := by decide +kernel
theorem dX5_would_24 : decode cX5_would 24 = .ok (.getfield 10, 3) := by decide +kernel
theorem dX5_would_27 : decode cX5_would 27 = .ok (.invokevirtual 251, 3) := by decide +kernel
theorem dX5_would_30 : decode cX5_would 30 = .ok (.iload_n 1, 1) := by decide +kernel
theorem dX5_would_31 : decode cX5_would 31 = .ok (.iconst (-1), 1) := by decide +kernel
theorem dX5_would_32 : decode cX5_would 32 = .ok (.ixor, 1) := by decide +kernel
theorem dX5_would_33 : decode cX5_would 33 = .ok (.iand, 1) := by decide +kernel
theorem dX5_would_34 : decode cX5_would 34 = .ok (.invokevirtual 254, 3) := by decide +kernel
theorem dX5_would_37 : decode cX5_would 37 = .ok (.ireturn, 1) := by decide +kernel
theorem dX5_without_0 : decode cX5_without 0 = .ok (.iload_n 1, 1) := by decide +kernel
theorem dX5_without_1 : decode cX5_without 1 = .ok (.aload_n 0, 1) := by decide +kernel
theorem dX5_without_2 : decode cX5_without 2 = .ok (.getfield 19, 3) := by decide +kernel
theorem dX5_without_5 : decode cX5_without 5 = .ok (.getfield 66, 3) := by decide +kernel
theorem dX5_without_8 : decode cX5_without 8 = .ok (.invokestatic 79, 3) := by decide +kernel
theorem dX5_without_11 : decode cX5_without 11 = .ok (.aload_n 0, 1) := by decide +kernel
theorem dX5_without_12 : decode cX5_without 12 = .ok (.getfield 19, 3) := by decide +kernel
theorem dX5_without_15 : decode cX5_without 15 = .ok (.getfield 86, 3) := by decide +kernel
theorem dX5_without_18 : decode cX5_without 18 = .ok (.istore_n 2, 1) := by decide +kernel
theorem dX5_without_19 : decode cX5_without 19 = .ok (.aload_n 0, 1) := by decide +kernel
theorem dX5_without_20 : decode cX5_without 20 = .ok (.getfield 19, 3) := by decide +kernel
theorem dX5_without_23 : decode cX5_without 23 = .ok (.dup, 1) := by decide +kernel
theorem dX5_without_24 : decode cX5_without 24 = .ok (.getfield 86, 3) := by decide +kernel
theorem dX5_without_27 : decode cX5_without 27 = .ok (.iconst 1, 1) := by decide +kernel
theorem dX5_without_28 : decode cX5_without 28 = .ok (.iload_n 1, 1) := by decide +kernel
theorem dX5_without_29 : decode cX5_without 29 = .ok (.ishl, 1) := by decide +kernel
theorem dX5_without_30 : decode cX5_without 30 = .ok (.ior, 1) := by decide +kernel
theorem dX5_without_31 : decode cX5_without 31 = .ok (.putfield 86, 3) := by decide +kernel
theorem dX5_without_34 : decode cX5_without 34 = .ok (.aload_n 0, 1) := by decide +kernel
theorem dX5_without_35 : decode cX5_without 35 = .ok (.getfield 26, 3) := by decide +kernel
theorem dX5_without_38 : decode cX5_without 38 = .ok (.aload_n 0, 1) := by decide +kernel
theorem dX5_without_39 : decode cX5_without 39 = .ok (.getfield 10, 3) := by decide +kernel
theorem dX5_without_42 : decode cX5_without 42 = .ok (.aload_n 0, 1) := by decide +kernel
theorem dX5_without_43 : decode cX5_without 43 = .ok (.getfield 19, 3) := by decide +kernel
theorem dX5_without_46 : decode cX5_without 46 = .ok (.aload_n 0, 1) := by decide +kernel
theorem dX5_without_47 : decode cX5_without 47 = .ok (.getfield 10, 3) := by decide +kernel
theorem dX5_without_50 : decode cX5_without 50 = .ok (.invokevirtual 251, 3) := by decide +kernel
theorem dX5_without_53 : decode cX5_without 53 = .ok (.invokevirtual 254, 3) := by decide +kernel
theorem dX5_without_56 : decode cX5_without 56 = .ok (.istore_n 3, 1) := by decide +kernel
theorem dX5_without_57 : decode cX5_without 57 = .ok (.aload_n 0, 1) := by decide +kernel
theorem dX5_without_58 : decode cX5_without 58 = .ok (.getfield 19, 3) := by decide +kernel
theorem dX5_without_61 : decode cX5_without 61 = .ok (.iload_n 2, 1) := by decide +kernel
theorem dX5_without_62 : decode cX5_without 62 = .ok (.putfield 86, 3) := by decide +kernel
theorem dX5_without_65 : decode cX5_without 65 = .ok (.iload_n 3, 1) := by decide +kernel
theorem dX5_without_66 : decode cX5_without 66 = .ok (.ireturn, 1) := by decide +kernel
theorem dX5_shareOf_0 : decode cX5_shareOf 0 = .ok (.iload_n 2, 1) := by decide +kernel
theorem dX5_shareOf_1 : decode cX5_shareOf 1 = .ok (.aload_n 0, 1) := by decide +kernel
theorem dX5_shareOf_2 : decode cX5_shareOf 2 = .ok (.getfield 19, 3) := by decide +kernel
theorem dX5_shareOf_5 : decode cX5_shareOf 5 = .ok (.getfield 66, 3) := by decide +kernel
theorem dX5_shareOf_8 : decode cX5_shareOf 8 = .ok (.invokestatic 79, 3) := by decide +kernel
theorem dX5_shareOf_11 : decode cX5_shareOf 11 = .ok (.iload_n 1, 1) := by decide +kernel
theorem dX5_shareOf_12 : decode cX5_shareOf 12 = .ok (.iconst 0, 1) := by decide +kernel
theorem dX5_shareOf_13 : decode cX5_shareOf 13 = .ok (.sipush 9999, 3) := by decide +kernel
theorem dX5_shareOf_16 : decode cX5_shareOf 16 = .ok (.invokestatic 44, 3) := by decide +kernel
theorem dX5_shareOf_19 : decode cX5_shareOf 19 = .ok (.aload_n 0, 1) := by decide +kernel
theorem dX5_shareOf_20 : decode cX5_shareOf 20 = .ok (.getfield 26, 3) := by decide +kernel
theorem dX5_shareOf_23 : decode cX5_shareOf 23 = .ok (.aload_n 0, 1) := by decide +kernel
theorem dX5_shareOf_24 : decode cX5_shareOf 24 = .ok (.getfield 10, 3) := by decide +kernel
theorem dX5_shareOf_27 : decode cX5_shareOf 27 = .ok (.aload_n 0, 1) := by decide +kernel
theorem dX5_shareOf_28 : decode cX5_shareOf 28 = .ok (.getfield 19, 3) := by decide +kernel
theorem dX5_shareOf_31 : decode cX5_shareOf 31 = .ok (.invokevirtual 133, 3) := by decide +kernel
theorem dX5_shareOf_34 : decode cX5_shareOf 34 = .ok (.aload_n 0, 1) := by decide +kernel
theorem dX5_shareOf_35 : decode cX5_shareOf 35 = .ok (.getfield 19, 3) := by decide +kernel
theorem dX5_shareOf_38 : decode cX5_shareOf 38 = .ok (.iload_n 1, 1) := by decide +kernel
theorem dX5_shareOf_39 : decode cX5_shareOf 39 = .ok (.iload_n 2, 1) := by decide +kernel
