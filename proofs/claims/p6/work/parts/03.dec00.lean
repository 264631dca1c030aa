theorem dX0_init_0 : decode cX0_init 0 = .ok (.aload_n 0, 1) := by decide +kernel
theorem dX0_init_1 : decode cX0_init 1 = .ok (.invokespecial 3, 3) := by decide +kernel
theorem dX0_init_4 : decode cX0_init 4 = .ok (.aload_n 0, 1) := by decide +kernel
theorem dX0_init_5 : decode cX0_init 5 = .ok (.iconst 5, 1) := by decide +kernel
theorem dX0_init_6 : decode cX0_init 6 = .ok (.newarray .int, 2) := by decide +kernel
theorem dX0_init_8 : decode cX0_init 8 = .ok (.putfield 9, 3) := by decide +kernel
theorem dX0_init_11 : decode cX0_init 11 = .ok (.aload_n 0, 1) := by decide +kernel
theorem dX0_init_12 : decode cX0_init 12 = .ok (.bipush 7, 2) := by decide +kernel
theorem dX0_init_14 : decode cX0_init 14 = .ok (.newarray .int, 2) := by decide +kernel
theorem dX0_init_16 : decode cX0_init 16 = .ok (.putfield 15, 3) := by decide +kernel
theorem dX0_init_19 : decode cX0_init 19 = .ok (.aload_n 0, 1) := by decide +kernel
theorem dX0_init_20 : decode cX0_init 20 = .ok (.bipush 7, 2) := by decide +kernel
theorem dX0_init_22 : decode cX0_init 22 = .ok (.newarray .int, 2) := by decide +kernel
theorem dX0_init_24 : decode cX0_init 24 = .ok (.putfield 18, 3) := by decide +kernel
theorem dX0_init_27 : decode cX0_init 27 = .ok (.aload_n 0, 1) := by decide +kernel
theorem dX0_init_28 : decode cX0_init 28 = .ok (.bipush 7, 2) := by decide +kernel
theorem dX0_init_30 : decode cX0_init 30 = .ok (.newarray .int, 2) := by decide +kernel
theorem dX0_init_32 : decode cX0_init 32 = .ok (.putfield 21, 3) := by decide +kernel
theorem dX0_init_35 : decode cX0_init 35 = .ok (.aload_n 0, 1) := by decide +kernel
theorem dX0_init_36 : decode cX0_init 36 = .ok (.iconst 5, 1) := by decide +kernel
theorem dX0_init_37 : decode cX0_init 37 = .ok (.newarray .int, 2) := by decide +kernel
theorem dX0_init_39 : decode cX0_init 39 = .ok (.putfield 24, 3) := by decide +kernel
theorem dX0_init_42 : decode cX0_init 42 = .ok (.return_, 1) := by decide +kernel
theorem dX0_forget_0 : decode cX0_forget 0 = .ok (.aload_n 0, 1) := by decide +kernel
theorem dX0_forget_1 : decode cX0_forget 1 = .ok (.iconst 0, 1) := by decide +kernel
theorem dX0_forget_2 : decode cX0_forget 2 = .ok (.putfield 27, 3) := by decide +kernel
theorem dX0_forget_5 : decode cX0_forget 5 = .ok (.return_, 1) := by decide +kernel
theorem dX0_recall_0 : decode cX0_recall 0 = .ok (.aload_n 0, 1) := by decide +kernel
theorem dX0_recall_1 : decode cX0_recall 1 = .ok (.getfield 27, 3) := by decide +kernel
theorem dX0_recall_4 : decode cX0_recall 4 = .ok (.ifCond .eq 4, 3) := by decide +kernel
theorem dX0_recall_7 : decode cX0_recall 7 = .ok (.return_, 1) := by decide +kernel
theorem dX0_recall_8 : decode cX0_recall 8 = .ok (.aload_n 0, 1) := by decide +kernel
theorem dX0_recall_9 : decode cX0_recall 9 = .ok (.aload_n 0, 1) := by decide +kernel
theorem dX0_recall_10 : decode cX0_recall 10 = .ok (.aload_n 1, 1) := by decide +kernel
theorem dX0_recall_11 : decode cX0_recall 11 = .ok (.aload_n 2, 1) := by decide +kernel
theorem dX0_recall_12 : decode cX0_recall 12 = .ok (.aload_n 1, 1) := by decide +kernel
theorem dX0_recall_13 : decode cX0_recall 13 = .ok (.invokevirtual 31, 3) := by decide +kernel
theorem dX0_recall_16 : decode cX0_recall 16 = .ok (.invokevirtual 37, 3) := by decide +kernel
theorem dX0_recall_19 : decode cX0_recall 19 = .ok (.putfield 41, 3) := by decide +kernel
theorem dX0_recall_22 : decode cX0_recall 22 = .ok (.iconst 0, 1) := by decide +kernel
theorem dX0_recall_23 : decode cX0_recall 23 = .ok (.istore_n 3, 1) := by decide +kernel
theorem dX0_recall_24 : decode cX0_recall 24 = .ok (.iload_n 3, 1) := by decide +kernel
theorem dX0_recall_25 : decode cX0_recall 25 = .ok (.iconst 5, 1) := by decide +kernel
theorem dX0_recall_26 : decode cX0_recall 26 = .ok (.if_icmp .ge 16, 3) := by decide +kernel
theorem dX0_recall_29 : decode cX0_recall 29 = .ok (.aload_n 0, 1) := by decide +kernel
theorem dX0_recall_30 : decode cX0_recall 30 = .ok (.getfield 9, 3) := by decide +kernel
theorem dX0_recall_33 : decode cX0_recall 33 = .ok (.iload_n 3, 1) := by decide +kernel
theorem dX0_recall_34 : decode cX0_recall 34 = .ok (.iconst 0, 1) := by decide +kernel
theorem dX0_recall_35 : decode cX0_recall 35 = .ok (.iastore, 1) := by decide +kernel
theorem dX0_recall_36 : decode cX0_recall 36 = .ok (.iinc 3 1, 3) := by decide +kernel
theorem dX0_recall_39 : decode cX0_recall 39 = .ok (.goto (-15), 3) := by decide +kernel
theorem dX0_recall_42 : decode cX0_recall 42 = .ok (.aload_n 0, 1) := by decide +kernel
theorem dX0_recall_43 : decode cX0_recall 43 = .ok (.getfield 41, 3) := by decide +kernel
theorem dX0_recall_46 : decode cX0_recall 46 = .ok (.iconst (-1), 1) := by decide +kernel
theorem dX0_recall_47 : decode cX0_recall 47 = .ok (.if_icmp .eq 8, 3) := by decide +kernel
theorem dX0_recall_50 : decode cX0_recall 50 = .ok (.aload_n 0, 1) := by decide +kernel
theorem dX0_recall_51 : decode cX0_recall 51 = .ok (.aload_n 1, 1) := by decide +kernel
theorem dX0_recall_52 : decode cX0_recall 52 = .ok (.invokevirtual 45, 3) := by decide +kernel
theorem dX0_recall_55 : decode cX0_recall 55 = .ok (.aload_n 0, 1) := by decide +kernel
theorem dX0_recall_56 : decode cX0_recall 56 = .ok (.aload_n 0, 1) := by decide +kernel
theorem dX0_recall_57 : decode cX0_recall 57 = .ok (.aload_n 1, 1) := by decide +kernel
theorem dX0_recall_58 : decode cX0_recall 58 = .ok (.aload_n 2, 1) := by decide +kernel
theorem dX0_recall_59 : decode cX0_recall 59 = .ok (.invokevirtual 49, 3) := by decide +kernel
theorem dX0_recall_62 : decode cX0_recall 62 = .ok (.putfield 53, 3) := by decide +kernel
theorem dX0_recall_65 : decode cX0_recall 65 = .ok (.aload_n 0, 1) := by decide +kernel
theorem dX0_recall_66 : decode cX0_recall 66 = .ok (.iconst 1, 1) := by decide +kernel
theorem dX0_recall_67 : decode cX0_recall 67 = .ok (.putfield 27, 3) := by decide +kernel
theorem dX0_recall_70 : decode cX0_recall 70 = .ok (.return_, 1) := by decide +kernel
theorem dX0_keepFirst_0 : decode cX0_keepFirst 0 = .ok (.aload_n 0, 1) := by decide +kernel
theorem dX0_keepFirst_1 : decode cX0_keepFirst 1 = .ok (.aload_n 1, 1) := by decide +kernel
theorem dX0_keepFirst_2 : decode cX0_keepFirst 2 = .ok (.aload_n 1, 1) := by decide +kernel
theorem dX0_keepFirst_3 : decode cX0_keepFirst 3 = .ok (.invokevirtual 31, 3) := by decide +kernel
theorem dX0_keepFirst_6 : decode cX0_keepFirst 6 = .ok (.invokevirtual 56, 3) := by decide +kernel
theorem dX0_keepFirst_9 : decode cX0_keepFirst 9 = .ok (.invokevirtual 60, 3) := by decide +kernel
theorem dX0_keepFirst_12 : decode cX0_keepFirst 12 = .ok (.aload_n 0, 1) := by decide +kernel
theorem dX0_keepFirst_13 : decode cX0_keepFirst 13 = .ok (.aload_n 0, 1) := by decide +kernel
theorem dX0_keepFirst_14 : decode cX0_keepFirst 14 = .ok (.getfield 41, 3) := by decide +kernel
theorem dX0_keepFirst_17 : decode cX0_keepFirst 17 = .ok (.invokevirtual 64, 3) := by decide +kernel
theorem dX0_keepFirst_20 : decode cX0_keepFirst 20 = .ok (.ifCond .eq 17, 3) := by decide +kernel
theorem dX0_keepFirst_23 : decode cX0_keepFirst 23 = .ok (.aload_n 0, 1) := by decide +kernel
theorem dX0_keepFirst_24 : decode cX0_keepFirst 24 = .ok (.getfield 24, 3) := by decide +kernel
theorem dX0_keepFirst_27 : decode cX0_keepFirst 27 = .ok (.iconst 0, 1) := by decide +kernel
theorem dX0_keepFirst_28 : decode cX0_keepFirst 28 = .ok (.aload_n 0, 1) := by decide +kernel
theorem dX0_keepFirst_29 : decode cX0_keepFirst 29 = .ok (.getfield 9, 3) := by decide +kernel
theorem dX0_keepFirst_32 : decode cX0_keepFirst 32 = .ok (.iconst 0, 1) := by decide +kernel
theorem dX0_keepFirst_33 : decode cX0_keepFirst 33 = .ok (.iconst 5, 1) := by decide +kernel
theorem dX0_keepFirst_34 : decode cX0_keepFirst 34 = .ok (.invokestatic 68, 3) := by decide +kernel
theorem dX0_keepFirst_37 : decode cX0_keepFirst 37 = .ok (.return_, 1) := by decide +kernel
theorem dX0_fewestCut_0 : decode cX0_fewestCut 0 = .ok (.iconst 0, 1) := by decide +kernel
theorem dX0_fewestCut_1 : decode cX0_fewestCut 1 = .ok (.istore_n 3, 1) := by decide +kernel
theorem dX0_fewestCut_2 : decode cX0_fewestCut 2 = .ok (.iload_n 3, 1) := by decide +kernel
theorem dX0_fewestCut_3 : decode cX0_fewestCut 3 = .ok (.aload_n 1, 1) := by decide +kernel
theorem dX0_fewestCut_4 : decode cX0_fewestCut 4 = .ok (.getfield 74, 3) := by decide +kernel
theorem dX0_fewestCut_7 : decode cX0_fewestCut 7 = .ok (.if_icmp .ge 67, 3) := by decide +kernel
theorem dX0_fewestCut_10 : decode cX0_fewestCut 10 = .ok (.iconst 0, 1) := by decide +kernel
theorem dX0_fewestCut_11 : decode cX0_fewestCut 11 = .ok (.istore 4, 2) := by decide +kernel
theorem dX0_fewestCut_13 : decode cX0_fewestCut 13 = .ok (.iload 4, 2) := by decide +kernel
theorem dX0_fewestCut_15 : decode cX0_fewestCut 15 = .ok (.iconst 1, 1) := by decide +kernel
theorem dX0_fewestCut_16 : decode cX0_fewestCut 16 = .ok (.aload_n 1, 1) := by decide +kernel
theorem dX0_fewestCut_17 : decode cX0_fewestCut 17 = .ok (.getfield 74, 3) := by decide +kernel
theorem dX0_fewestCut_20 : decode cX0_fewestCut 20 = .ok (.ishl, 1) := by decide +kernel
theorem dX0_fewestCut_21 : decode cX0_fewestCut 21 = .ok (.if_icmp .ge 47, 3) := by decide +kernel
theorem dX0_fewestCut_24 : decode cX0_fewestCut 24 = .ok (.iload 4, 2) := by decide +kernel
theorem dX0_fewestCut_26 : decode cX0_fewestCut 26 = .ok (.invokestatic 77, 3) := by decide +kernel
theorem dX0_fewestCut_29 : decode cX0_fewestCut 29 = .ok (.iload_n 3, 1) := by decide +kernel
theorem dX0_fewestCut_30 : decode cX0_fewestCut 30 = .ok (.if_icmp .eq 6, 3) := by decide +kernel
theorem dX0_fewestCut_33 : decode cX0_fewestCut 33 = .ok (.goto 29, 3) := by decide +kernel
theorem dX0_fewestCut_36 : decode cX0_fewestCut 36 = .ok (.aload_n 0, 1) := by decide +kernel
theorem dX0_fewestCut_37 : decode cX0_fewestCut 37 = .ok (.aload_n 1, 1) := by decide +kernel
theorem dX0_fewestCut_38 : decode cX0_fewestCut 38 = .ok (.aload_n 2, 1) := by decide +kernel
theorem dX0_fewestCut_39 : decode cX0_fewestCut 39 = .ok (.aload_n 1, 1) := by decide +kernel
theorem dX0_fewestCut_40 : decode cX0_fewestCut 40 = .ok (.invokevirtual 31, 3) := by decide +kernel
theorem dX0_fewestCut_43 : decode cX0_fewestCut 43 = .ok (.iload 4, 2) := by decide +kernel
theorem dX0_fewestCut_45 : decode cX0_fewestCut 45 = .ok (.iconst (-1), 1) := by decide +kernel
theorem dX0_fewestCut_46 : decode cX0_fewestCut 46 = .ok (.ixor, 1) := by decide +kernel
theorem dX0_fewestCut_47 : decode cX0_fewestCut 47 = .ok (.iand, 1) := by decide +kernel
theorem dX0_fewestCut_48 : decode cX0_fewestCut 48 = .ok (.invokevirtual 82, 3) := by decide +kernel
theorem dX0_fewestCut_51 : decode cX0_fewestCut 51 = .ok (.aload_n 0, 1) := by decide +kernel
theorem dX0_fewestCut_52 : decode cX0_fewestCut 52 = .ok (.iconst 5, 1) := by decide +kernel
theorem dX0_fewestCut_53 : decode cX0_fewestCut 53 = .ok (.invokevirtual 64, 3) := by decide +kernel
theorem dX0_fewestCut_56 : decode cX0_fewestCut 56 = .ok (.ifCond .eq 6, 3) := by decide +kernel
theorem dX0_fewestCut_59 : decode cX0_fewestCut 59 = .ok (.iload 4, 2) := by decide +kernel
theorem dX0_fewestCut_61 : decode cX0_fewestCut 61 = .ok (.ireturn, 1) := by decide +kernel
theorem dX0_fewestCut_62 : decode cX0_fewestCut 62 = .ok (.iinc 4 1, 3) := by decide +kernel
theorem dX0_fewestCut_65 : decode cX0_fewestCut 65 = .ok (.goto (-52), 3) := by decide +kernel
theorem dX0_fewestCut_68 : decode cX0_fewestCut 68 = .ok (.iinc 3 1, 3) := by decide +kernel
theorem dX0_fewestCut_71 : decode cX0_fewestCut 71 = .ok (.goto (-69), 3) := by decide +kernel
theorem dX0_fewestCut_74 : decode cX0_fewestCut 74 = .ok (.aload_n 1, 1) := by decide +kernel
theorem dX0_fewestCut_75 : decode cX0_fewestCut 75 = .ok (.invokevirtual 31, 3) := by decide +kernel
theorem dX0_fewestCut_78 : decode cX0_fewestCut 78 = .ok (.ireturn, 1) := by decide +kernel
theorem dX0_playerOf_0 : decode cX0_playerOf 0 = .ok (.iconst 0, 1) := by decide +kernel
theorem dX0_playerOf_1 : decode cX0_playerOf 1 = .ok (.istore_n 2, 1) := by decide +kernel
theorem dX0_playerOf_2 : decode cX0_playerOf 2 = .ok (.iload_n 2, 1) := by decide +kernel
theorem dX0_playerOf_3 : decode cX0_playerOf 3 = .ok (.iconst 5, 1) := by decide +kernel
theorem dX0_playerOf_4 : decode cX0_playerOf 4 = .ok (.if_icmp .ge 24, 3) := by decide +kernel
theorem dX0_playerOf_7 : decode cX0_playerOf 7 = .ok (.aload_n 0, 1) := by decide +kernel
theorem dX0_playerOf_8 : decode cX0_playerOf 8 = .ok (.getfield 9, 3) := by decide +kernel
theorem dX0_playerOf_11 : decode cX0_playerOf 11 = .ok (.iload_n 2, 1) := by decide +kernel
theorem dX0_playerOf_12 : decode cX0_playerOf 12 = .ok (.iaload, 1) := by decide +kernel
theorem dX0_playerOf_13 : decode cX0_playerOf 13 = .ok (.iload_n 1, 1) := by decide +kernel
theorem dX0_playerOf_14 : decode cX0_playerOf 14 = .ok (.invokestatic 86, 3) := by decide +kernel
theorem dX0_playerOf_17 : decode cX0_playerOf 17 = .ok (.ifCond .eq 5, 3) := by decide +kernel
theorem dX0_playerOf_20 : decode cX0_playerOf 20 = .ok (.iload_n 2, 1) := by decide +kernel
theorem dX0_playerOf_21 : decode cX0_playerOf 21 = .ok (.ireturn, 1) := by decide +kernel
theorem dX0_playerOf_22 : decode cX0_playerOf 22 = .ok (.iinc 2 1, 3) := by decide +kernel
theorem dX0_playerOf_25 : decode cX0_playerOf 25 = .ok (.goto (-23), 3) := by decide +kernel
theorem dX0_playerOf_28 : decode cX0_playerOf 28 = .ok (.iconst (-1), 1) := by decide +kernel
theorem dX0_playerOf_29 : decode cX0_playerOf 29 = .ok (.ireturn, 1) := by decide +kernel
theorem dX0_actors_0 : decode cX0_actors 0 = .ok (.iconst 0, 1) := by decide +kernel
theorem dX0_actors_1 : decode cX0_actors 1 = .ok (.istore_n 1, 1) := by decide +kernel
theorem dX0_actors_2 : decode cX0_actors 2 = .ok (.iconst 0, 1) := by decide +kernel
theorem dX0_actors_3 : decode cX0_actors 3 = .ok (.istore_n 2, 1) := by decide +kernel
theorem dX0_actors_4 : decode cX0_actors 4 = .ok (.iload_n 2, 1) := by decide +kernel
theorem dX0_actors_5 : decode cX0_actors 5 = .ok (.iconst 5, 1) := by decide +kernel
theorem dX0_actors_6 : decode cX0_actors 6 = .ok (.if_icmp .ge 24, 3) := by decide +kernel
theorem dX0_actors_9 : decode cX0_actors 9 = .ok (.aload_n 0, 1) := by decide +kernel
theorem dX0_actors_10 : decode cX0_actors 10 = .ok (.getfield 9, 3) := by decide +kernel
theorem dX0_actors_13 : decode cX0_actors 13 = .ok (.iload_n 2, 1) := by decide +kernel
theorem dX0_actors_14 : decode cX0_actors 14 = .ok (.iaload, 1) := by decide +kernel
theorem dX0_actors_15 : decode cX0_actors 15 = .ok (.ifCond .eq 9, 3) := by decide +kernel
theorem dX0_actors_18 : decode cX0_actors 18 = .ok (.iload_n 1, 1) := by decide +kernel
theorem dX0_actors_19 : decode cX0_actors 19 = .ok (.iconst 1, 1) := by decide +kernel
theorem dX0_actors_20 : decode cX0_actors 20 = .ok (.iload_n 2, 1) := by decide +kernel
theorem dX0_actors_21 : decode cX0_actors 21 = .ok (.ishl, 1) := by decide +kernel
theorem dX0_actors_22 : decode cX0_actors 22 = .ok (.ior, 1) := by decide +kernel
theorem dX0_actors_23 : decode cX0_actors 23 = .ok (.istore_n 1, 1) := by decide +kernel
theorem dX0_actors_24 : decode cX0_actors 24 = .ok (.iinc 2 1, 3) := by decide +kernel
theorem dX0_actors_27 : decode cX0_actors 27 = .ok (.goto (-23), 3) := by decide +kernel
theorem dX0_actors_30 : decode cX0_actors 30 = .ok (.iload_n 1, 1) := by decide +kernel
theorem dX0_actors_31 : decode cX0_actors 31 = .ok (.ireturn, 1) := by decide +kernel
theorem dX0_clashesOf_0 : decode cX0_clashesOf 0 = .ok (.aload_n 2, 1) := by decide +kernel
theorem dX0_clashesOf_1 : decode cX0_clashesOf 1 = .ok (.aload_n 2, 1) := by decide +kernel
theorem dX0_clashesOf_2 : decode cX0_clashesOf 2 = .ok (.invokevirtual 31, 3) := by decide +kernel
theorem dX0_clashesOf_5 : decode cX0_clashesOf 5 = .ok (.aload_n 0, 1) := by decide +kernel
theorem dX0_clashesOf_6 : decode cX0_clashesOf 6 = .ok (.getfield 18, 3) := by decide +kernel
theorem dX0_clashesOf_9 : decode cX0_clashesOf 9 = .ok (.invokevirtual 90, 3) := by decide +kernel
theorem dX0_clashesOf_12 : decode cX0_clashesOf 12 = .ok (.aload_n 0, 1) := by decide +kernel
theorem dX0_clashesOf_13 : decode cX0_clashesOf 13 = .ok (.getfield 18, 3) := by decide +kernel
theorem dX0_clashesOf_16 : decode cX0_clashesOf 16 = .ok (.iload_n 1, 1) := by decide +kernel
theorem dX0_clashesOf_17 : decode cX0_clashesOf 17 = .ok (.iaload, 1) := by decide +kernel
theorem dX0_clashesOf_18 : decode cX0_clashesOf 18 = .ok (.ireturn, 1) := by decide +kernel
theorem dX0_fewest_0 : decode cX0_fewest 0 = .ok (.aload_n 0, 1) := by decide +kernel
theorem dX0_fewest_1 : decode cX0_fewest 1 = .ok (.aload_n 1, 1) := by decide +kernel
theorem dX0_fewest_2 : decode cX0_fewest 2 = .ok (.aload_n 2, 1) := by decide +kernel
theorem dX0_fewest_3 : decode cX0_fewest 3 = .ok (.iload_n 3, 1) := by decide +kernel
theorem dX0_fewest_4 : decode cX0_fewest 4 = .ok (.invokevirtual 82, 3) := by decide +kernel
theorem dX0_fewest_7 : decode cX0_fewest 7 = .ok (.aload_n 0, 1) := by decide +kernel
theorem dX0_fewest_8 : decode cX0_fewest 8 = .ok (.iconst 5, 1) := by decide +kernel
theorem dX0_fewest_9 : decode cX0_fewest 9 = .ok (.invokevirtual 64, 3) := by decide +kernel
theorem dX0_fewest_12 : decode cX0_fewest 12 = .ok (.ifCond .ne 5, 3) := by decide +kernel
theorem dX0_fewest_15 : decode cX0_fewest 15 = .ok (.iconst (-1), 1) := by decide +kernel
theorem dX0_fewest_16 : decode cX0_fewest 16 = .ok (.ireturn, 1) := by decide +kernel
theorem dX0_fewest_17 : decode cX0_fewest 17 = .ok (.iconst 0, 1) := by decide +kernel
theorem dX0_fewest_18 : decode cX0_fewest 18 = .ok (.istore 4, 2) := by decide +kernel
theorem dX0_fewest_20 : decode cX0_fewest 20 = .ok (.iload 4, 2) := by decide +kernel
theorem dX0_fewest_22 : decode cX0_fewest 22 = .ok (.iconst 5, 1) := by decide +kernel
theorem dX0_fewest_23 : decode cX0_fewest 23 = .ok (.if_icmp .ge 21, 3) := by decide +kernel
theorem dX0_fewest_26 : decode cX0_fewest 26 = .ok (.aload_n 0, 1) := by decide +kernel
theorem dX0_fewest_27 : decode cX0_fewest 27 = .ok (.iload 4, 2) := by decide +kernel
theorem dX0_fewest_29 : decode cX0_fewest 29 = .ok (.invokevirtual 64, 3) := by decide +kernel
theorem dX0_fewest_32 : decode cX0_fewest 32 = .ok (.ifCond .eq 6, 3) := by decide +kernel
theorem dX0_fewest_35 : decode cX0_fewest 35 = .ok (.iload 4, 2) := by decide +kernel
theorem dX0_fewest_37 : decode cX0_fewest 37 = .ok (.ireturn, 1) := by decide +kernel
theorem dX0_fewest_38 : decode cX0_fewest 38 = .ok (.iinc 4 1, 3) := by decide +kernel
theorem dX0_fewest_41 : decode cX0_fewest 41 = .ok (.goto (-21), 3) := by decide +kernel
theorem dX0_fewest_44 : decode cX0_fewest 44 = .ok (.iconst 5, 1) := by decide +kernel
theorem dX0_fewest_45 : decode cX0_fewest 45 = .ok (.ireturn, 1) := by decide +kernel
theorem dX0_prepare_0 : decode cX0_prepare 0 = .ok (.aload_n 1, 1) := by decide +kernel
theorem dX0_prepare_1 : decode cX0_prepare 1 = .ok (.iload_n 3, 1) := by decide +kernel
theorem dX0_prepare_2 : decode cX0_prepare 2 = .ok (.aload_n 0, 1) := by decide +kernel
theorem dX0_prepare_3 : decode cX0_prepare 3 = .ok (.getfield 18, 3) := by decide +kernel
theorem dX0_prepare_6 : decode cX0_prepare 6 = .ok (.invokevirtual 90, 3) := by decide +kernel
theorem dX0_prepare_9 : decode cX0_prepare 9 = .ok (.iconst 0, 1) := by decide +kernel
theorem dX0_prepare_10 : decode cX0_prepare 10 = .ok (.istore 4, 2) := by decide +kernel
theorem dX0_prepare_12 : decode cX0_prepare 12 = .ok (.iload 4, 2) := by decide +kernel
theorem dX0_prepare_14 : decode cX0_prepare 14 = .ok (.aload_n 1, 1) := by decide +kernel
theorem dX0_prepare_15 : decode cX0_prepare 15 = .ok (.getfield 94, 3) := by decide +kernel
theorem dX0_prepare_18 : decode cX0_prepare 18 = .ok (.if_icmp .ge 29, 3) := by decide +kernel
theorem dX0_prepare_21 : decode cX0_prepare 21 = .ok (.aload_n 0, 1) := by decide +kernel
theorem dX0_prepare_22 : decode cX0_prepare 22 = .ok (.getfield 15, 3) := by decide +kernel
theorem dX0_prepare_25 : decode cX0_prepare 25 = .ok (.iload 4, 2) := by decide +kernel
theorem dX0_prepare_27 : decode cX0_prepare 27 = .ok (.aload_n 2, 1) := by decide +kernel
theorem dX0_prepare_28 : decode cX0_prepare 28 = .ok (.iconst 1, 1) := by decide +kernel
theorem dX0_prepare_29 : decode cX0_prepare 29 = .ok (.aload_n 1, 1) := by decide +kernel
theorem dX0_prepare_30 : decode cX0_prepare 30 = .ok (.getfield 97, 3) := by decide +kernel
theorem dX0_prepare_33 : decode cX0_prepare 33 = .ok (.iload 4, 2) := by decide +kernel
theorem dX0_prepare_35 : decode cX0_prepare 35 = .ok (.iaload, 1) := by decide +kernel
theorem dX0_prepare_36 : decode cX0_prepare 36 = .ok (.ishl, 1) := by decide +kernel
theorem dX0_prepare_37 : decode cX0_prepare 37 = .ok (.invokevirtual 100, 3) := by decide +kernel
theorem dX0_prepare_40 : decode cX0_prepare 40 = .ok (.iastore, 1) := by decide +kernel
theorem dX0_prepare_41 : decode cX0_prepare 41 = .ok (.iinc 4 1, 3) := by decide +kernel
theorem dX0_prepare_44 : decode cX0_prepare 44 = .ok (.goto (-32), 3) := by decide +kernel
theorem dX0_prepare_47 : decode cX0_prepare 47 = .ok (.aload_n 0, 1) := by decide +kernel
theorem dX0_prepare_48 : decode cX0_prepare 48 = .ok (.aload_n 1, 1) := by decide +kernel
theorem dX0_prepare_49 : decode cX0_prepare 49 = .ok (.iload_n 3, 1) := by decide +kernel
theorem dX0_prepare_50 : decode cX0_prepare 50 = .ok (.invokevirtual 56, 3) := by decide +kernel
theorem dX0_prepare_53 : decode cX0_prepare 53 = .ok (.invokevirtual 105, 3) := by decide +kernel
theorem dX0_prepare_56 : decode cX0_prepare 56 = .ok (.return_, 1) := by decide +kernel
theorem dX0_orderByChoice_0 : decode cX0_orderByChoice 0 = .ok (.aload_n 0, 1) := by decide +kernel
theorem dX0_orderByChoice_1 : decode cX0_orderByChoice 1 = .ok (.iconst 0, 1) := by decide +kernel
theorem dX0_orderByChoice_2 : decode cX0_orderByChoice 2 = .ok (.putfield 108, 3) := by decide +kernel
theorem dX0_orderByChoice_5 : decode cX0_orderByChoice 5 = .ok (.iconst 0, 1) := by decide +kernel
theorem dX0_orderByChoice_6 : decode cX0_orderByChoice 6 = .ok (.istore_n 2, 1) := by decide +kernel
theorem dX0_orderByChoice_7 : decode cX0_orderByChoice 7 = .ok (.iload_n 2, 1) := by decide +kernel
theorem dX0_orderByChoice_8 : decode cX0_orderByChoice 8 = .ok (.iconst 5, 1) := by decide +kernel
theorem dX0_orderByChoice_9 : decode cX0_orderByChoice 9 = .ok (.if_icmp .gt 64, 3) := by decide +kernel
theorem dX0_orderByChoice_12 : decode cX0_orderByChoice 12 = .ok (.iconst 0, 1) := by decide +kernel
theorem dX0_orderByChoice_13 : decode cX0_orderByChoice 13 = .ok (.istore_n 3, 1) := by decide +kernel
theorem dX0_orderByChoice_14 : decode cX0_orderByChoice 14 = .ok (.iload_n 3, 1) := by decide +kernel
theorem dX0_orderByChoice_15 : decode cX0_orderByChoice 15 = .ok (.bipush 7, 2) := by decide +kernel
theorem dX0_orderByChoice_17 : decode cX0_orderByChoice 17 = .ok (.if_icmp .ge 50, 3) := by decide +kernel
theorem dX0_orderByChoice_20 : decode cX0_orderByChoice 20 = .ok (.iload_n 1, 1) := by decide +kernel
theorem dX0_orderByChoice_21 : decode cX0_orderByChoice 21 = .ok (.iload_n 3, 1) := by decide +kernel
theorem dX0_orderByChoice_22 : decode cX0_orderByChoice 22 = .ok (.invokestatic 86, 3) := by decide +kernel
theorem dX0_orderByChoice_25 : decode cX0_orderByChoice 25 = .ok (.ifCond .eq 36, 3) := by decide +kernel
theorem dX0_orderByChoice_28 : decode cX0_orderByChoice 28 = .ok (.aload_n 0, 1) := by decide +kernel
theorem dX0_orderByChoice_29 : decode cX0_orderByChoice 29 = .ok (.getfield 15, 3) := by decide +kernel
theorem dX0_orderByChoice_32 : decode cX0_orderByChoice 32 = .ok (.iload_n 3, 1) := by decide +kernel
theorem dX0_orderByChoice_33 : decode cX0_orderByChoice 33 = .ok (.iaload, 1) := by decide +kernel
theorem dX0_orderByChoice_34 : decode cX0_orderByChoice 34 = .ok (.invokestatic 77, 3) := by decide +kernel
theorem dX0_orderByChoice_37 : decode cX0_orderByChoice 37 = .ok (.iload_n 2, 1) := by decide +kernel
theorem dX0_orderByChoice_38 : decode cX0_orderByChoice 38 = .ok (.if_icmp .ne 23, 3) := by decide +kernel
theorem dX0_orderByChoice_41 : decode cX0_orderByChoice 41 = .ok (.aload_n 0, 1) := by decide +kernel
theorem dX0_orderByChoice_42 : decode cX0_orderByChoice 42 = .ok (.getfield 21, 3) := by decide +kernel
theorem dX0_orderByChoice_45 : decode cX0_orderByChoice 45 = .ok (.aload_n 0, 1) := by decide +kernel
theorem dX0_orderByChoice_46 : decode cX0_orderByChoice 46 = .ok (.getfield 108, 3) := by decide +kernel
theorem dX0_orderByChoice_49 : decode cX0_orderByChoice 49 = .ok (.iload_n 3, 1) := by decide +kernel
theorem dX0_orderByChoice_50 : decode cX0_orderByChoice 50 = .ok (.iastore, 1) := by decide +kernel
theorem dX0_orderByChoice_51 : decode cX0_orderByChoice 51 = .ok (.aload_n 0, 1) := by decide +kernel
theorem dX0_orderByChoice_52 : decode cX0_orderByChoice 52 = .ok (.dup, 1) := by decide +kernel
theorem dX0_orderByChoice_53 : decode cX0_orderByChoice 53 = .ok (.getfield 108, 3) := by decide +kernel
theorem dX0_orderByChoice_56 : decode cX0_orderByChoice 56 = .ok (.iconst 1, 1) := by decide +kernel
theorem dX0_orderByChoice_57 : decode cX0_orderByChoice 57 = .ok (.iadd, 1) := by decide +kernel
theorem dX0_orderByChoice_58 : decode cX0_orderByChoice 58 = .ok (.putfield 108, 3) := by decide +kernel
theorem dX0_orderByChoice_61 : decode cX0_orderByChoice 61 = .ok (.iinc 3 1, 3) := by decide +kernel
theorem dX0_orderByChoice_64 : decode cX0_orderByChoice 64 = .ok (.goto (-50), 3) := by decide +kernel
theorem dX0_orderByChoice_67 : decode cX0_orderByChoice 67 = .ok (.iinc 2 1, 3) := by decide +kernel
theorem dX0_orderByChoice_70 : decode cX0_orderByChoice 70 = .ok (.goto (-63), 3) := by decide +kernel
theorem dX0_orderByChoice_73 : decode cX0_orderByChoice 73 = .ok (.return_, 1) := by decide +kernel
theorem dX0_orderByNumber_0 : decode cX0_orderByNumber 0 = .ok (.aload_n 0, 1) := by decide +kernel
theorem dX0_orderByNumber_1 : decode cX0_orderByNumber 1 = .ok (.iconst 0, 1) := by decide +kernel
theorem dX0_orderByNumber_2 : decode cX0_orderByNumber 2 = .ok (.putfield 108, 3) := by decide +kernel
theorem dX0_orderByNumber_5 : decode cX0_orderByNumber 5 = .ok (.iconst 0, 1) := by decide +kernel
theorem dX0_orderByNumber_6 : decode cX0_orderByNumber 6 = .ok (.istore_n 2, 1) := by decide +kernel
theorem dX0_orderByNumber_7 : decode cX0_orderByNumber 7 = .ok (.iload_n 2, 1) := by decide +kernel
theorem dX0_orderByNumber_8 : decode cX0_orderByNumber 8 = .ok (.bipush 7, 2) := by decide +kernel
theorem dX0_orderByNumber_10 : decode cX0_orderByNumber 10 = .ok (.if_icmp .ge 37, 3) := by decide +kernel
theorem dX0_orderByNumber_13 : decode cX0_orderByNumber 13 = .ok (.iload_n 1, 1) := by decide +kernel
theorem dX0_orderByNumber_14 : decode cX0_orderByNumber 14 = .ok (.iload_n 2, 1) := by decide +kernel
theorem dX0_orderByNumber_15 : decode cX0_orderByNumber 15 = .ok (.invokestatic 86, 3) := by decide +kernel
theorem dX0_orderByNumber_18 : decode cX0_orderByNumber 18 = .ok (.ifCond .eq 23, 3) := by decide +kernel
theorem dX0_orderByNumber_21 : decode cX0_orderByNumber 21 = .ok (.aload_n 0, 1) := by decide +kernel
theorem dX0_orderByNumber_22 : decode cX0_orderByNumber 22 = .ok (.getfield 21, 3) := by decide +kernel
theorem dX0_orderByNumber_25 : decode cX0_orderByNumber 25 = .ok (.aload_n 0, 1) := by decide +kernel
theorem dX0_orderByNumber_26 : decode cX0_orderByNumber 26 = .ok (.getfield 108, 3) := by decide +kernel
theorem dX0_orderByNumber_29 : decode cX0_orderByNumber 29 = .ok (.iload_n 2, 1) := by decide +kernel
theorem dX0_orderByNumber_30 : decode cX0_orderByNumber 30 = .ok (.iastore, 1) := by decide +kernel
theorem dX0_orderByNumber_31 : decode cX0_orderByNumber 31 = .ok (.aload_n 0, 1) := by decide +kernel
theorem dX0_orderByNumber_32 : decode cX0_orderByNumber 32 = .ok (.dup, 1) := by decide +kernel
theorem dX0_orderByNumber_33 : decode cX0_orderByNumber 33 = .ok (.getfield 108, 3) := by decide +kernel
theorem dX0_orderByNumber_36 : decode cX0_orderByNumber 36 = .ok (.iconst 1, 1) := by decide +kernel
theorem dX0_orderByNumber_37 : decode cX0_orderByNumber 37 = .ok (.iadd, 1) := by decide +kernel
theorem dX0_orderByNumber_38 : decode cX0_orderByNumber 38 = .ok (.putfield 108, 3) := by decide +kernel
theorem dX0_orderByNumber_41 : decode cX0_orderByNumber 41 = .ok (.iinc 2 1, 3) := by decide +kernel
theorem dX0_orderByNumber_44 : decode cX0_orderByNumber 44 = .ok (.goto (-37), 3) := by decide +kernel
theorem dX0_orderByNumber_47 : decode cX0_orderByNumber 47 = .ok (.return_, 1) := by decide +kernel
theorem dX0_canPlace_0 : decode cX0_canPlace 0 = .ok (.iconst 0, 1) := by decide +kernel
theorem dX0_canPlace_1 : decode cX0_canPlace 1 = .ok (.istore_n 2, 1) := by decide +kernel
theorem dX0_canPlace_2 : decode cX0_canPlace 2 = .ok (.iload_n 2, 1) := by decide +kernel
theorem dX0_canPlace_3 : decode cX0_canPlace 3 = .ok (.iconst 5, 1) := by decide +kernel
theorem dX0_canPlace_4 : decode cX0_canPlace 4 = .ok (.if_icmp .ge 16, 3) := by decide +kernel
theorem dX0_canPlace_7 : decode cX0_canPlace 7 = .ok (.aload_n 0, 1) := by decide +kernel
theorem dX0_canPlace_8 : decode cX0_canPlace 8 = .ok (.getfield 24, 3) := by decide +kernel
theorem dX0_canPlace_11 : decode cX0_canPlace 11 = .ok (.iload_n 2, 1) := by decide +kernel
theorem dX0_canPlace_12 : decode cX0_canPlace 12 = .ok (.iconst 0, 1) := by decide +kernel
theorem dX0_canPlace_13 : decode cX0_canPlace 13 = .ok (.iastore, 1) := by decide +kernel
theorem dX0_canPlace_14 : decode cX0_canPlace 14 = .ok (.iinc 2 1, 3) := by decide +kernel
theorem dX0_canPlace_17 : decode cX0_canPlace 17 = .ok (.goto (-15), 3) := by decide +kernel
theorem dX0_canPlace_20 : decode cX0_canPlace 20 = .ok (.aload_n 0, 1) := by decide +kernel
theorem dX0_canPlace_21 : decode cX0_canPlace 21 = .ok (.iconst 0, 1) := by decide +kernel
theorem dX0_canPlace_22 : decode cX0_canPlace 22 = .ok (.iload_n 1, 1) := by decide +kernel
theorem dX0_canPlace_23 : decode cX0_canPlace 23 = .ok (.invokestatic 111, 3) := by decide +kernel
theorem dX0_canPlace_26 : decode cX0_canPlace 26 = .ok (.ireturn, 1) := by decide +kernel
theorem dX0_canPlaceFrom_0 : decode cX0_canPlaceFrom 0 = .ok (.iload_n 1, 1) := by decide +kernel
theorem dX0_canPlaceFrom_1 : decode cX0_canPlaceFrom 1 = .ok (.aload_n 0, 1) := by decide +kernel
theorem dX0_canPlaceFrom_2 : decode cX0_canPlaceFrom 2 = .ok (.getfield 108, 3) := by decide +kernel
theorem dX0_canPlaceFrom_5 : decode cX0_canPlaceFrom 5 = .ok (.if_icmp .lt 5, 3) := by decide +kernel
theorem dX0_canPlaceFrom_8 : decode cX0_canPlaceFrom 8 = .ok (.iconst 1, 1) := by decide +kernel
theorem dX0_canPlaceFrom_9 : decode cX0_canPlaceFrom 9 = .ok (.ireturn, 1) := by decide +kernel
theorem dX0_canPlaceFrom_10 : decode cX0_canPlaceFrom 10 = .ok (.aload_n 0, 1) := by decide +kernel
theorem dX0_canPlaceFrom_11 : decode cX0_canPlaceFrom 11 = .ok (.getfield 21, 3) := by decide +kernel
theorem dX0_canPlaceFrom_14 : decode cX0_canPlaceFrom 14 = .ok (.iload_n 1, 1) := by decide +kernel
theorem dX0_canPlaceFrom_15 : decode cX0_canPlaceFrom 15 = .ok (.iaload, 1) := by decide +kernel
theorem dX0_canPlaceFrom_16 : decode cX0_canPlaceFrom 16 = .ok (.istore_n 3, 1) := by decide +kernel
theorem dX0_canPlaceFrom_17 : decode cX0_canPlaceFrom 17 = .ok (.iconst 0, 1) := by decide +kernel
theorem dX0_canPlaceFrom_18 : decode cX0_canPlaceFrom 18 = .ok (.istore 4, 2) := by decide +kernel
theorem dX0_canPlaceFrom_20 : decode cX0_canPlaceFrom 20 = .ok (.iload 4, 2) := by decide +kernel
theorem dX0_canPlaceFrom_22 : decode cX0_canPlaceFrom 22 = .ok (.iconst 5, 1) := by decide +kernel
theorem dX0_canPlaceFrom_23 : decode cX0_canPlaceFrom 23 = .ok (.if_icmp .ge 110, 3) := by decide +kernel
theorem dX0_canPlaceFrom_26 : decode cX0_canPlaceFrom 26 = .ok (.aload_n 0, 1) := by decide +kernel
theorem dX0_canPlaceFrom_27 : decode cX0_canPlaceFrom 27 = .ok (.getfield 24, 3) := by decide +kernel
theorem dX0_canPlaceFrom_30 : decode cX0_canPlaceFrom 30 = .ok (.iload 4, 2) := by decide +kernel
theorem dX0_canPlaceFrom_32 : decode cX0_canPlaceFrom 32 = .ok (.iaload, 1) := by decide +kernel
theorem dX0_canPlaceFrom_33 : decode cX0_canPlaceFrom 33 = .ok (.ifCond .ne 7, 3) := by decide +kernel
theorem dX0_canPlaceFrom_36 : decode cX0_canPlaceFrom 36 = .ok (.iconst 1, 1) := by decide +kernel
theorem dX0_canPlaceFrom_37 : decode cX0_canPlaceFrom 37 = .ok (.goto 4, 3) := by decide +kernel
theorem dX0_canPlaceFrom_40 : decode cX0_canPlaceFrom 40 = .ok (.iconst 0, 1) := by decide +kernel
theorem dX0_canPlaceFrom_41 : decode cX0_canPlaceFrom 41 = .ok (.istore 5, 2) := by decide +kernel
theorem dX0_canPlaceFrom_43 : decode cX0_canPlaceFrom 43 = .ok (.aload_n 0, 1) := by decide +kernel
theorem dX0_canPlaceFrom_44 : decode cX0_canPlaceFrom 44 = .ok (.getfield 15, 3) := by decide +kernel
theorem dX0_canPlaceFrom_47 : decode cX0_canPlaceFrom 47 = .ok (.iload_n 3, 1) := by decide +kernel
theorem dX0_canPlaceFrom_48 : decode cX0_canPlaceFrom 48 = .ok (.iaload, 1) := by decide +kernel
theorem dX0_canPlaceFrom_49 : decode cX0_canPlaceFrom 49 = .ok (.iload 4, 2) := by decide +kernel
theorem dX0_canPlaceFrom_51 : decode cX0_canPlaceFrom 51 = .ok (.invokestatic 86, 3) := by decide +kernel
theorem dX0_canPlaceFrom_54 : decode cX0_canPlaceFrom 54 = .ok (.ifCond .eq 73, 3) := by decide +kernel
theorem dX0_canPlaceFrom_57 : decode cX0_canPlaceFrom 57 = .ok (.aload_n 0, 1) := by decide +kernel
theorem dX0_canPlaceFrom_58 : decode cX0_canPlaceFrom 58 = .ok (.getfield 24, 3) := by decide +kernel
theorem dX0_canPlaceFrom_61 : decode cX0_canPlaceFrom 61 = .ok (.iload 4, 2) := by decide +kernel
theorem dX0_canPlaceFrom_63 : decode cX0_canPlaceFrom 63 = .ok (.iaload, 1) := by decide +kernel
theorem dX0_canPlaceFrom_64 : decode cX0_canPlaceFrom 64 = .ok (.aload_n 0, 1) := by decide +kernel
theorem dX0_canPlaceFrom_65 : decode cX0_canPlaceFrom 65 = .ok (.getfield 18, 3) := by decide +kernel
theorem dX0_canPlaceFrom_68 : decode cX0_canPlaceFrom 68 = .ok (.iload_n 3, 1) := by decide +kernel
theorem dX0_canPlaceFrom_69 : decode cX0_canPlaceFrom 69 = .ok (.iaload, 1) := by decide +kernel
theorem dX0_canPlaceFrom_70 : decode cX0_canPlaceFrom 70 = .ok (.iand, 1) := by decide +kernel
theorem dX0_canPlaceFrom_71 : decode cX0_canPlaceFrom 71 = .ok (.ifCond .ne 56, 3) := by decide +kernel
theorem dX0_canPlaceFrom_74 : decode cX0_canPlaceFrom 74 = .ok (.iload 5, 2) := by decide +kernel
theorem dX0_canPlaceFrom_76 : decode cX0_canPlaceFrom 76 = .ok (.iload_n 2, 1) := by decide +kernel
theorem dX0_canPlaceFrom_77 : decode cX0_canPlaceFrom 77 = .ok (.if_icmp .le 6, 3) := by decide +kernel
theorem dX0_canPlaceFrom_80 : decode cX0_canPlaceFrom 80 = .ok (.goto 47, 3) := by decide +kernel
theorem dX0_canPlaceFrom_83 : decode cX0_canPlaceFrom 83 = .ok (.aload_n 0, 1) := by decide +kernel
theorem dX0_canPlaceFrom_84 : decode cX0_canPlaceFrom 84 = .ok (.getfield 24, 3) := by decide +kernel
theorem dX0_canPlaceFrom_87 : decode cX0_canPlaceFrom 87 = .ok (.iload 4, 2) := by decide +kernel
theorem dX0_canPlaceFrom_89 : decode cX0_canPlaceFrom 89 = .ok (.dup2, 1) := by decide +kernel
theorem dX0_canPlaceFrom_90 : decode cX0_canPlaceFrom 90 = .ok (.iaload, 1) := by decide +kernel
theorem dX0_canPlaceFrom_91 : decode cX0_canPlaceFrom 91 = .ok (.iconst 1, 1) := by decide +kernel
theorem dX0_canPlaceFrom_92 : decode cX0_canPlaceFrom 92 = .ok (.iload_n 3, 1) := by decide +kernel
theorem dX0_canPlaceFrom_93 : decode cX0_canPlaceFrom 93 = .ok (.ishl, 1) := by decide +kernel
theorem dX0_canPlaceFrom_94 : decode cX0_canPlaceFrom 94 = .ok (.ior, 1) := by decide +kernel
theorem dX0_canPlaceFrom_95 : decode cX0_canPlaceFrom 95 = .ok (.iastore, 1) := by decide +kernel
theorem dX0_canPlaceFrom_96 : decode cX0_canPlaceFrom 96 = .ok (.aload_n 0, 1) := by decide +kernel
theorem dX0_canPlaceFrom_97 : decode cX0_canPlaceFrom 97 = .ok (.iload_n 1, 1) := by decide +kernel
theorem dX0_canPlaceFrom_98 : decode cX0_canPlaceFrom 98 = .ok (.iconst 1, 1) := by decide +kernel
theorem dX0_canPlaceFrom_99 : decode cX0_canPlaceFrom 99 = .ok (.iadd, 1) := by decide +kernel
theorem dX0_canPlaceFrom_100 : decode cX0_canPlaceFrom 100 = .ok (.iload_n 2, 1) := by decide +kernel
theorem dX0_canPlaceFrom_101 : decode cX0_canPlaceFrom 101 = .ok (.iload 5, 2) := by decide +kernel
theorem dX0_canPlaceFrom_103 : decode cX0_canPlaceFrom 103 = .ok (.isub, 1) := by decide +kernel
theorem dX0_canPlaceFrom_104 : decode cX0_canPlaceFrom 104 = .ok (.invokestatic 111, 3) := by decide +kernel
theorem dX0_canPlaceFrom_107 : decode cX0_canPlaceFrom 107 = .ok (.ifCond .eq 5, 3) := by decide +kernel
theorem dX0_canPlaceFrom_110 : decode cX0_canPlaceFrom 110 = .ok (.iconst 1, 1) := by decide +kernel
theorem dX0_canPlaceFrom_111 : decode cX0_canPlaceFrom 111 = .ok (.ireturn, 1) := by decide +kernel
theorem dX0_canPlaceFrom_112 : decode cX0_canPlaceFrom 112 = .ok (.aload_n 0, 1) := by decide +kernel
theorem dX0_canPlaceFrom_113 : decode cX0_canPlaceFrom 113 = .ok (.getfield 24, 3) := by decide +kernel
theorem dX0_canPlaceFrom_116 : decode cX0_canPlaceFrom 116 = .ok (.iload 4, 2) := by decide +kernel
theorem dX0_canPlaceFrom_118 : decode cX0_canPlaceFrom 118 = .ok (.dup2, 1) := by decide +kernel
theorem dX0_canPlaceFrom_119 : decode cX0_canPlaceFrom 119 = .ok (.iaload, 1) := by decide +kernel
theorem dX0_canPlaceFrom_120 : decode cX0_canPlaceFrom 120 = .ok (.iconst 1, 1) := by decide +kernel
theorem dX0_canPlaceFrom_121 : decode cX0_canPlaceFrom 121 = .ok (.iload_n 3, 1) := by decide +kernel
theorem dX0_canPlaceFrom_122 : decode cX0_canPlaceFrom 122 = .ok (.ishl, 1) := by decide +kernel
theorem dX0_canPlaceFrom_123 : decode cX0_canPlaceFrom 123 = .ok (.iconst (-1), 1) := by decide +kernel
theorem dX0_canPlaceFrom_124 : decode cX0_canPlaceFrom 124 = .ok (.ixor, 1) := by decide +kernel
theorem dX0_canPlaceFrom_125 : decode cX0_canPlaceFrom 125 = .ok (.iand, 1) := by decide +kernel
theorem dX0_canPlaceFrom_126 : decode cX0_canPlaceFrom 126 = .ok (.iastore, 1) := by decide +kernel
theorem dX0_canPlaceFrom_127 : decode cX0_canPlaceFrom 127 = .ok (.iinc 4 1, 3) := by decide +kernel
theorem dX0_canPlaceFrom_130 : decode cX0_canPlaceFrom 130 = .ok (.goto (-110), 3) := by decide +kernel
theorem dX0_canPlaceFrom_133 : decode cX0_canPlaceFrom 133 = .ok (.iconst 0, 1) := by decide +kernel
theorem dX0_canPlaceFrom_134 : decode cX0_canPlaceFrom 134 = .ok (.ireturn, 1) := by decide +kernel
theorem dX1_init_0 : decode cX1_init 0 = .ok (.aload_n 0, 1) := by decide +kernel
theorem dX1_init_1 : decode cX1_init 1 = .ok (.invokespecial 3, 3) := by decide +kernel
theorem dX1_init_4 : decode cX1_init 4 = .ok (.aload_n 0, 1) := by decide +kernel
theorem dX1_init_5 : decode cX1_init 5 = .ok (.iconst 5, 1) := by decide +kernel
theorem dX1_init_6 : decode cX1_init 6 = .ok (.newarray .int, 2) := by decide +kernel
theorem dX1_init_8 : decode cX1_init 8 = .ok (.putfield 9, 3) := by decide +kernel
theorem dX1_init_11 : decode cX1_init 11 = .ok (.aload_n 0, 1) := by decide +kernel
theorem dX1_init_12 : decode cX1_init 12 = .ok (.iconst 5, 1) := by decide +kernel
theorem dX1_init_13 : decode cX1_init 13 = .ok (.newarray .int, 2) := by decide +kernel
theorem dX1_init_15 : decode cX1_init 15 = .ok (.putfield 15, 3) := by decide +kernel
theorem dX1_init_18 : decode cX1_init 18 = .ok (.aload_n 0, 1) := by decide +kernel
theorem dX1_init_19 : decode cX1_init 19 = .ok (.iconst 5, 1) := by decide +kernel
theorem dX1_init_20 : decode cX1_init 20 = .ok (.newarray .int, 2) := by decide +kernel
theorem dX1_init_22 : decode cX1_init 22 = .ok (.putfield 18, 3) := by decide +kernel
theorem dX1_init_25 : decode cX1_init 25 = .ok (.aload_n 0, 1) := by decide +kernel
theorem dX1_init_26 : decode cX1_init 26 = .ok (.iconst 5, 1) := by decide +kernel
theorem dX1_init_27 : decode cX1_init 27 = .ok (.newarray .int, 2) := by decide +kernel
theorem dX1_init_29 : decode cX1_init 29 = .ok (.putfield 21, 3) := by decide +kernel
theorem dX1_init_32 : decode cX1_init 32 = .ok (.return_, 1) := by decide +kernel
theorem dX1_addPlayer_0 : decode cX1_addPlayer 0 = .ok (.aload_n 0, 1) := by decide +kernel
theorem dX1_addPlayer_1 : decode cX1_addPlayer 1 = .ok (.getfield 9, 3) := by decide +kernel
theorem dX1_addPlayer_4 : decode cX1_addPlayer 4 = .ok (.aload_n 0, 1) := by decide +kernel
theorem dX1_addPlayer_5 : decode cX1_addPlayer 5 = .ok (.getfield 24, 3) := by decide +kernel
theorem dX1_addPlayer_8 : decode cX1_addPlayer 8 = .ok (.iload_n 1, 1) := by decide +kernel
theorem dX1_addPlayer_9 : decode cX1_addPlayer 9 = .ok (.iastore, 1) := by decide +kernel
theorem dX1_addPlayer_10 : decode cX1_addPlayer 10 = .ok (.aload_n 0, 1) := by decide +kernel
theorem dX1_addPlayer_11 : decode cX1_addPlayer 11 = .ok (.getfield 15, 3) := by decide +kernel
theorem dX1_addPlayer_14 : decode cX1_addPlayer 14 = .ok (.aload_n 0, 1) := by decide +kernel
theorem dX1_addPlayer_15 : decode cX1_addPlayer 15 = .ok (.getfield 24, 3) := by decide +kernel
theorem dX1_addPlayer_18 : decode cX1_addPlayer 18 = .ok (.iload_n 2, 1) := by decide +kernel
theorem dX1_addPlayer_19 : decode cX1_addPlayer 19 = .ok (.iastore, 1) := by decide +kernel
theorem dX1_addPlayer_20 : decode cX1_addPlayer 20 = .ok (.aload_n 0, 1) := by decide +kernel
theorem dX1_addPlayer_21 : decode cX1_addPlayer 21 = .ok (.getfield 18, 3) := by decide +kernel
theorem dX1_addPlayer_24 : decode cX1_addPlayer 24 = .ok (.aload_n 0, 1) := by decide +kernel
theorem dX1_addPlayer_25 : decode cX1_addPlayer 25 = .ok (.getfield 24, 3) := by decide +kernel
theorem dX1_addPlayer_28 : decode cX1_addPlayer 28 = .ok (.iload_n 3, 1) := by decide +kernel
theorem dX1_addPlayer_29 : decode cX1_addPlayer 29 = .ok (.iastore, 1) := by decide +kernel
theorem dX1_addPlayer_30 : decode cX1_addPlayer 30 = .ok (.aload_n 0, 1) := by decide +kernel
theorem dX1_addPlayer_31 : decode cX1_addPlayer 31 = .ok (.dup, 1) := by decide +kernel
theorem dX1_addPlayer_32 : decode cX1_addPlayer 32 = .ok (.getfield 24, 3) := by decide +kernel
theorem dX1_addPlayer_35 : decode cX1_addPlayer 35 = .ok (.iconst 1, 1) := by decide +kernel
theorem dX1_addPlayer_36 : decode cX1_addPlayer 36 = .ok (.iadd, 1) := by decide +kernel
theorem dX1_addPlayer_37 : decode cX1_addPlayer 37 = .ok (.putfield 24, 3) := by decide +kernel
theorem dX1_addPlayer_40 : decode cX1_addPlayer 40 = .ok (.aload_n 0, 1) := by decide +kernel
theorem dX1_addPlayer_41 : decode cX1_addPlayer 41 = .ok (.getfield 24, 3) := by decide +kernel
theorem dX1_addPlayer_44 : decode cX1_addPlayer 44 = .ok (.iconst 1, 1) := by decide +kernel
theorem dX1_addPlayer_45 : decode cX1_addPlayer 45 = .ok (.isub, 1) := by decide +kernel
theorem dX1_addPlayer_46 : decode cX1_addPlayer 46 = .ok (.ireturn, 1) := by decide +kernel
theorem dX1_countWell_0 : decode cX1_countWell 0 = .ok (.aload_n 0, 1) := by decide +kernel
theorem dX1_countWell_1 : decode cX1_countWell 1 = .ok (.getfield 24, 3) := by decide +kernel
theorem dX1_countWell_4 : decode cX1_countWell 4 = .ok (.aload_n 0, 1) := by decide +kernel
theorem dX1_countWell_5 : decode cX1_countWell 5 = .ok (.getfield 28, 3) := by decide +kernel
theorem dX1_countWell_8 : decode cX1_countWell 8 = .ok (.invokestatic 31, 3) := by decide +kernel
theorem dX1_countWell_11 : decode cX1_countWell 11 = .ok (.isub, 1) := by decide +kernel
theorem dX1_countWell_12 : decode cX1_countWell 12 = .ok (.ireturn, 1) := by decide +kernel
theorem dX1_ableOfAny_0 : decode cX1_ableOfAny 0 = .ok (.iconst 0, 1) := by decide +kernel
theorem dX1_ableOfAny_1 : decode cX1_ableOfAny 1 = .ok (.istore_n 2, 1) := by decide +kernel
theorem dX1_ableOfAny_2 : decode cX1_ableOfAny 2 = .ok (.iconst 0, 1) := by decide +kernel
theorem dX1_ableOfAny_3 : decode cX1_ableOfAny 3 = .ok (.istore_n 3, 1) := by decide +kernel
theorem dX1_ableOfAny_4 : decode cX1_ableOfAny 4 = .ok (.iload_n 3, 1) := by decide +kernel
theorem dX1_ableOfAny_5 : decode cX1_ableOfAny 5 = .ok (.aload_n 0, 1) := by decide +kernel
theorem dX1_ableOfAny_6 : decode cX1_ableOfAny 6 = .ok (.getfield 24, 3) := by decide +kernel
theorem dX1_ableOfAny_9 : decode cX1_ableOfAny 9 = .ok (.if_icmp .ge 37, 3) := by decide +kernel
theorem dX1_ableOfAny_12 : decode cX1_ableOfAny 12 = .ok (.aload_n 0, 1) := by decide +kernel
theorem dX1_ableOfAny_13 : decode cX1_ableOfAny 13 = .ok (.getfield 28, 3) := by decide +kernel
theorem dX1_ableOfAny_16 : decode cX1_ableOfAny 16 = .ok (.iload_n 3, 1) := by decide +kernel
theorem dX1_ableOfAny_17 : decode cX1_ableOfAny 17 = .ok (.invokestatic 37, 3) := by decide +kernel
theorem dX1_ableOfAny_20 : decode cX1_ableOfAny 20 = .ok (.ifCond .ne 20, 3) := by decide +kernel
theorem dX1_ableOfAny_23 : decode cX1_ableOfAny 23 = .ok (.aload_n 0, 1) := by decide +kernel
theorem dX1_ableOfAny_24 : decode cX1_ableOfAny 24 = .ok (.getfield 9, 3) := by decide +kernel
theorem dX1_ableOfAny_27 : decode cX1_ableOfAny 27 = .ok (.iload_n 3, 1) := by decide +kernel
theorem dX1_ableOfAny_28 : decode cX1_ableOfAny 28 = .ok (.iaload, 1) := by decide +kernel
theorem dX1_ableOfAny_29 : decode cX1_ableOfAny 29 = .ok (.iload_n 1, 1) := by decide +kernel
theorem dX1_ableOfAny_30 : decode cX1_ableOfAny 30 = .ok (.iand, 1) := by decide +kernel
theorem dX1_ableOfAny_31 : decode cX1_ableOfAny 31 = .ok (.ifCond .eq 9, 3) := by decide +kernel
theorem dX1_ableOfAny_34 : decode cX1_ableOfAny 34 = .ok (.iload_n 2, 1) := by decide +kernel
theorem dX1_ableOfAny_35 : decode cX1_ableOfAny 35 = .ok (.iconst 1, 1) := by decide +kernel
theorem dX1_ableOfAny_36 : decode cX1_ableOfAny 36 = .ok (.iload_n 3, 1) := by decide +kernel
theorem dX1_ableOfAny_37 : decode cX1_ableOfAny 37 = .ok (.ishl, 1) := by decide +kernel
theorem dX1_ableOfAny_38 : decode cX1_ableOfAny 38 = .ok (.ior, 1) := by decide +kernel
theorem dX1_ableOfAny_39 : decode cX1_ableOfAny 39 = .ok (.istore_n 2, 1) := by decide +kernel
theorem dX1_ableOfAny_40 : decode cX1_ableOfAny 40 = .ok (.iinc 3 1, 3) := by decide +kernel
theorem dX1_ableOfAny_43 : decode cX1_ableOfAny 43 = .ok (.goto (-39), 3) := by decide +kernel
theorem dX1_ableOfAny_46 : decode cX1_ableOfAny 46 = .ok (.iload_n 2, 1) := by decide +kernel
theorem dX1_ableOfAny_47 : decode cX1_ableOfAny 47 = .ok (.ireturn, 1) := by decide +kernel
theorem dX1_allPurses_0 : decode cX1_allPurses 0 = .ok (.iconst 0, 1) := by decide +kernel
theorem dX1_allPurses_1 : decode cX1_allPurses 1 = .ok (.istore_n 1, 1) := by decide +kernel
theorem dX1_allPurses_2 : decode cX1_allPurses 2 = .ok (.iconst 0, 1) := by decide +kernel
theorem dX1_allPurses_3 : decode cX1_allPurses 3 = .ok (.istore_n 2, 1) := by decide +kernel
theorem dX1_allPurses_4 : decode cX1_allPurses 4 = .ok (.iload_n 2, 1) := by decide +kernel
theorem dX1_allPurses_5 : decode cX1_allPurses 5 = .ok (.aload_n 0, 1) := by decide +kernel
theorem dX1_allPurses_6 : decode cX1_allPurses 6 = .ok (.getfield 24, 3) := by decide +kernel
theorem dX1_allPurses_9 : decode cX1_allPurses 9 = .ok (.if_icmp .ge 18, 3) := by decide +kernel
theorem dX1_allPurses_12 : decode cX1_allPurses 12 = .ok (.iload_n 1, 1) := by decide +kernel
theorem dX1_allPurses_13 : decode cX1_allPurses 13 = .ok (.aload_n 0, 1) := by decide +kernel
theorem dX1_allPurses_14 : decode cX1_allPurses 14 = .ok (.getfield 21, 3) := by decide +kernel
theorem dX1_allPurses_17 : decode cX1_allPurses 17 = .ok (.iload_n 2, 1) := by decide +kernel
theorem dX1_allPurses_18 : decode cX1_allPurses 18 = .ok (.iaload, 1) := by decide +kernel
theorem dX1_allPurses_19 : decode cX1_allPurses 19 = .ok (.iadd, 1) := by decide +kernel
theorem dX1_allPurses_20 : decode cX1_allPurses 20 = .ok (.istore_n 1, 1) := by decide +kernel
theorem dX1_allPurses_21 : decode cX1_allPurses 21 = .ok (.iinc 2 1, 3) := by decide +kernel
theorem dX1_allPurses_24 : decode cX1_allPurses 24 = .ok (.goto (-20), 3) := by decide +kernel
theorem dX1_allPurses_27 : decode cX1_allPurses 27 = .ok (.iload_n 1, 1) := by decide +kernel
theorem dX1_allPurses_28 : decode cX1_allPurses 28 = .ok (.ireturn, 1) := by decide +kernel
theorem dX1_hasDebt_0 : decode cX1_hasDebt 0 = .ok (.iconst 0, 1) := by decide +kernel
theorem dX1_hasDebt_1 : decode cX1_hasDebt 1 = .ok (.istore_n 1, 1) := by decide +kernel
theorem dX1_hasDebt_2 : decode cX1_hasDebt 2 = .ok (.iload_n 1, 1) := by decide +kernel
theorem dX1_hasDebt_3 : decode cX1_hasDebt 3 = .ok (.aload_n 0, 1) := by decide +kernel
theorem dX1_hasDebt_4 : decode cX1_hasDebt 4 = .ok (.getfield 24, 3) := by decide +kernel
theorem dX1_hasDebt_7 : decode cX1_hasDebt 7 = .ok (.if_icmp .ge 20, 3) := by decide +kernel
theorem dX1_hasDebt_10 : decode cX1_hasDebt 10 = .ok (.aload_n 0, 1) := by decide +kernel
theorem dX1_hasDebt_11 : decode cX1_hasDebt 11 = .ok (.getfield 21, 3) := by decide +kernel
theorem dX1_hasDebt_14 : decode cX1_hasDebt 14 = .ok (.iload_n 1, 1) := by decide +kernel
theorem dX1_hasDebt_15 : decode cX1_hasDebt 15 = .ok (.iaload, 1) := by decide +kernel
theorem dX1_hasDebt_16 : decode cX1_hasDebt 16 = .ok (.ifCond .ge 5, 3) := by decide +kernel
theorem dX1_hasDebt_19 : decode cX1_hasDebt 19 = .ok (.iconst 1, 1) := by decide +kernel
theorem dX1_hasDebt_20 : decode cX1_hasDebt 20 = .ok (.ireturn, 1) := by decide +kernel
theorem dX1_hasDebt_21 : decode cX1_hasDebt 21 = .ok (.iinc 1 1, 3) := by decide +kernel
theorem dX1_hasDebt_24 : decode cX1_hasDebt 24 = .ok (.goto (-22), 3) := by decide +kernel
theorem dX1_hasDebt_27 : decode cX1_hasDebt 27 = .ok (.iconst 0, 1) := by decide +kernel
theorem dX1_hasDebt_28 : decode cX1_hasDebt 28 = .ok (.ireturn, 1) := by decide +kernel
theorem dX1_portion_0 : decode cX1_portion 0 = .ok (.aload_n 0, 1) := by decide +kernel
theorem dX1_portion_1 : decode cX1_portion 1 = .ok (.iload_n 3, 1) := by decide +kernel
theorem dX1_portion_2 : decode cX1_portion 2 = .ok (.invokevirtual 41, 3) := by decide +kernel
theorem dX1_portion_5 : decode cX1_portion 5 = .ok (.istore 4, 2) := by decide +kernel
theorem dX1_portion_7 : decode cX1_portion 7 = .ok (.iload 4, 2) := by decide +kernel
theorem dX1_portion_9 : decode cX1_portion 9 = .ok (.ifCond .eq 11, 3) := by decide +kernel
theorem dX1_portion_12 : decode cX1_portion 12 = .ok (.iload_n 3, 1) := by decide +kernel
theorem dX1_portion_13 : decode cX1_portion 13 = .ok (.iload_n 2, 1) := by decide +kernel
theorem dX1_portion_14 : decode cX1_portion 14 = .ok (.invokestatic 37, 3) := by decide +kernel
theorem dX1_portion_17 : decode cX1_portion 17 = .ok (.ifCond .ne 5, 3) := by decide +kernel
theorem dX1_portion_20 : decode cX1_portion 20 = .ok (.iconst 0, 1) := by decide +kernel
theorem dX1_portion_21 : decode cX1_portion 21 = .ok (.ireturn, 1) := by decide +kernel
theorem dX1_portion_22 : decode cX1_portion 22 = .ok (.iload_n 1, 1) := by decide +kernel
theorem dX1_portion_23 : decode cX1_portion 23 = .ok (.aload_n 0, 1) := by decide +kernel
theorem dX1_portion_24 : decode cX1_portion 24 = .ok (.getfield 18, 3) := by decide +kernel
theorem dX1_portion_27 : decode cX1_portion 27 = .ok (.iload_n 2, 1) := by decide +kernel
theorem dX1_portion_28 : decode cX1_portion 28 = .ok (.iaload, 1) := by decide +kernel
theorem dX1_portion_29 : decode cX1_portion 29 = .ok (.imul, 1) := by decide +kernel
theorem dX1_portion_30 : decode cX1_portion 30 = .ok (.iload 4, 2) := by decide +kernel
theorem dX1_portion_32 : decode cX1_portion 32 = .ok (.irem, 1) := by decide +kernel
theorem dX1_portion_33 : decode cX1_portion 33 = .ok (.istore 5, 2) := by decide +kernel
theorem dX1_portion_35 : decode cX1_portion 35 = .ok (.iload_n 1, 1) := by decide +kernel
theorem dX1_portion_36 : decode cX1_portion 36 = .ok (.istore 6, 2) := by decide +kernel
theorem dX1_portion_38 : decode cX1_portion 38 = .ok (.iconst 0, 1) := by decide +kernel
theorem dX1_portion_39 : decode cX1_portion 39 = .ok (.istore 7, 2) := by decide +kernel
theorem dX1_portion_41 : decode cX1_portion 41 = .ok (.iconst 0, 1) := by decide +kernel
theorem dX1_portion_42 : decode cX1_portion 42 = .ok (.istore 8, 2) := by decide +kernel
theorem dX1_portion_44 : decode cX1_portion 44 = .ok (.iload 8, 2) := by decide +kernel
theorem dX1_portion_46 : decode cX1_portion 46 = .ok (.aload_n 0, 1) := by decide +kernel
theorem dX1_portion_47 : decode cX1_portion 47 = .ok (.getfield 24, 3) := by decide +kernel
theorem dX1_portion_50 : decode cX1_portion 50 = .ok (.if_icmp .ge 75, 3) := by decide +kernel
theorem dX1_portion_53 : decode cX1_portion 53 = .ok (.iload_n 3, 1) := by decide +kernel
theorem dX1_portion_54 : decode cX1_portion 54 = .ok (.iload 8, 2) := by decide +kernel
theorem dX1_portion_56 : decode cX1_portion 56 = .ok (.invokestatic 37, 3) := by decide +kernel
theorem dX1_portion_59 : decode cX1_portion 59 = .ok (.ifCond .ne 6, 3) := by decide +kernel
theorem dX1_portion_62 : decode cX1_portion 62 = .ok (.goto 57, 3) := by decide +kernel
theorem dX1_portion_65 : decode cX1_portion 65 = .ok (.iload 6, 2) := by decide +kernel
theorem dX1_portion_67 : decode cX1_portion 67 = .ok (.iload_n 1, 1) := by decide +kernel
theorem dX1_portion_68 : decode cX1_portion 68 = .ok (.aload_n 0, 1) := by decide +kernel
theorem dX1_portion_69 : decode cX1_portion 69 = .ok (.getfield 18, 3) := by decide +kernel
theorem dX1_portion_72 : decode cX1_portion 72 = .ok (.iload 8, 2) := by decide +kernel
theorem dX1_portion_74 : decode cX1_portion 74 = .ok (.iaload, 1) := by decide +kernel
theorem dX1_portion_75 : decode cX1_portion 75 = .ok (.imul, 1) := by decide +kernel
theorem dX1_portion_76 : decode cX1_portion 76 = .ok (.iload 4, 2) := by decide +kernel
theorem dX1_portion_78 : decode cX1_portion 78 = .ok (.idiv, 1) := by decide +kernel
theorem dX1_portion_79 : decode cX1_portion 79 = .ok (.isub, 1) := by decide +kernel
theorem dX1_portion_80 : decode cX1_portion 80 = .ok (.istore 6, 2) := by decide +kernel
theorem dX1_portion_82 : decode cX1_portion 82 = .ok (.iload_n 1, 1) := by decide +kernel
theorem dX1_portion_83 : decode cX1_portion 83 = .ok (.aload_n 0, 1) := by decide +kernel
theorem dX1_portion_84 : decode cX1_portion 84 = .ok (.getfield 18, 3) := by decide +kernel
theorem dX1_portion_87 : decode cX1_portion 87 = .ok (.iload 8, 2) := by decide +kernel
theorem dX1_portion_89 : decode cX1_portion 89 = .ok (.iaload, 1) := by decide +kernel
theorem dX1_portion_90 : decode cX1_portion 90 = .ok (.imul, 1) := by decide +kernel
theorem dX1_portion_91 : decode cX1_portion 91 = .ok (.iload 4, 2) := by decide +kernel
theorem dX1_portion_93 : decode cX1_portion 93 = .ok (.irem, 1) := by decide +kernel
theorem dX1_portion_94 : decode cX1_portion 94 = .ok (.istore 9, 2) := by decide +kernel
theorem dX1_portion_96 : decode cX1_portion 96 = .ok (.iload 9, 2) := by decide +kernel
theorem dX1_portion_98 : decode cX1_portion 98 = .ok (.iload 5, 2) := by decide +kernel
theorem dX1_portion_100 : decode cX1_portion 100 = .ok (.if_icmp .gt 16, 3) := by decide +kernel
theorem dX1_portion_103 : decode cX1_portion 103 = .ok (.iload 9, 2) := by decide +kernel
theorem dX1_portion_105 : decode cX1_portion 105 = .ok (.iload 5, 2) := by decide +kernel
theorem dX1_portion_107 : decode cX1_portion 107 = .ok (.if_icmp .ne 12, 3) := by decide +kernel
theorem dX1_portion_110 : decode cX1_portion 110 = .ok (.iload 8, 2) := by decide +kernel
theorem dX1_portion_112 : decode cX1_portion 112 = .ok (.iload_n 2, 1) := by decide +kernel
theorem dX1_portion_113 : decode cX1_portion 113 = .ok (.if_icmp .ge 6, 3) := by decide +kernel
theorem dX1_portion_116 : decode cX1_portion 116 = .ok (.iinc 7 1, 3) := by decide +kernel
theorem dX1_portion_119 : decode cX1_portion 119 = .ok (.iinc 8 1, 3) := by decide +kernel
theorem dX1_portion_122 : decode cX1_portion 122 = .ok (.goto (-78), 3) := by decide +kernel
theorem dX1_portion_125 : decode cX1_portion 125 = .ok (.iload_n 1, 1) := by decide +kernel
theorem dX1_portion_126 : decode cX1_portion 126 = .ok (.aload_n 0, 1) := by decide +kernel
theorem dX1_portion_127 : decode cX1_portion 127 = .ok (.getfield 18, 3) := by decide +kernel
theorem dX1_portion_130 : decode cX1_portion 130 = .ok (.iload_n 2, 1) := by decide +kernel
theorem dX1_portion_131 : decode cX1_portion 131 = .ok (.iaload, 1) := by decide +kernel
theorem dX1_portion_132 : decode cX1_portion 132 = .ok (.imul, 1) := by decide +kernel
theorem dX1_portion_133 : decode cX1_portion 133 = .ok (.iload 4, 2) := by decide +kernel
theorem dX1_portion_135 : decode cX1_portion 135 = .ok (.idiv, 1) := by decide +kernel
theorem dX1_portion_136 : decode cX1_portion 136 = .ok (.iload 7, 2) := by decide +kernel
theorem dX1_portion_138 : decode cX1_portion 138 = .ok (.iload 6, 2) := by decide +kernel
theorem dX1_portion_140 : decode cX1_portion 140 = .ok (.if_icmp .ge 7, 3) := by decide +kernel
theorem dX1_portion_143 : decode cX1_portion 143 = .ok (.iconst 1, 1) := by decide +kernel
theorem dX1_portion_144 : decode cX1_portion 144 = .ok (.goto 4, 3) := by decide +kernel
theorem dX1_portion_147 : decode cX1_portion 147 = .ok (.iconst 0, 1) := by decide +kernel
theorem dX1_portion_148 : decode cX1_portion 148 = .ok (.iadd, 1) := by decide +kernel
theorem dX1_portion_149 : decode cX1_portion 149 = .ok (.ireturn, 1) := by decide +kernel
theorem dX1_sharesOf_0 : decode cX1_sharesOf 0 = .ok (.iconst 0, 1) := by decide +kernel
theorem dX1_sharesOf_1 : decode cX1_sharesOf 1 = .ok (.istore_n 2, 1) := by decide +kernel
theorem dX1_sharesOf_2 : decode cX1_sharesOf 2 = .ok (.iconst 0, 1) := by decide +kernel
theorem dX1_sharesOf_3 : decode cX1_sharesOf 3 = .ok (.istore_n 3, 1) := by decide +kernel
theorem dX1_sharesOf_4 : decode cX1_sharesOf 4 = .ok (.iload_n 3, 1) := by decide +kernel
theorem dX1_sharesOf_5 : decode cX1_sharesOf 5 = .ok (.aload_n 0, 1) := by decide +kernel
theorem dX1_sharesOf_6 : decode cX1_sharesOf 6 = .ok (.getfield 24, 3) := by decide +kernel
theorem dX1_sharesOf_9 : decode cX1_sharesOf 9 = .ok (.if_icmp .ge 26, 3) := by decide +kernel
theorem dX1_sharesOf_12 : decode cX1_sharesOf 12 = .ok (.iload_n 1, 1) := by decide +kernel
theorem dX1_sharesOf_13 : decode cX1_sharesOf 13 = .ok (.iload_n 3, 1) := by decide +kernel
theorem dX1_sharesOf_14 : decode cX1_sharesOf 14 = .ok (.invokestatic 37, 3) := by decide +kernel
theorem dX1_sharesOf_17 : decode cX1_sharesOf 17 = .ok (.ifCond .eq 12, 3) := by decide +kernel
theorem dX1_sharesOf_20 : decode cX1_sharesOf 20 = .ok (.iload_n 2, 1) := by decide +kernel
theorem dX1_sharesOf_21 : decode cX1_sharesOf 21 = .ok (.aload_n 0, 1) := by decide +kernel
theorem dX1_sharesOf_22 : decode cX1_sharesOf 22 = .ok (.getfield 18, 3) := by decide +kernel
theorem dX1_sharesOf_25 : decode cX1_sharesOf 25 = .ok (.iload_n 3, 1) := by decide +kernel
theorem dX1_sharesOf_26 : decode cX1_sharesOf 26 = .ok (.iaload, 1) := by decide +kernel
theorem dX1_sharesOf_27 : decode cX1_sharesOf 27 = .ok (.iadd, 1) := by decide +kernel
theorem dX1_sharesOf_28 : decode cX1_sharesOf 28 = .ok (.istore_n 2, 1) := by decide +kernel
theorem dX1_sharesOf_29 : decode cX1_sharesOf 29 = .ok (.iinc 3 1, 3) := by decide +kernel
theorem dX1_sharesOf_32 : decode cX1_sharesOf 32 = .ok (.goto (-28), 3) := by decide +kernel
theorem dX1_sharesOf_35 : decode cX1_sharesOf 35 = .ok (.iload_n 2, 1) := by decide +kernel
theorem dX1_sharesOf_36 : decode cX1_sharesOf 36 = .ok (.ireturn, 1) := by decide +kernel
