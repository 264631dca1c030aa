theorem dX12_ofPart_30 : decode cX12_ofPart 30 = .ok (.iload_n 1, 1) := by decide +kernel
theorem dX12_ofPart_31 : decode cX12_ofPart 31 = .ok (.iload_n 2, 1) := by decide +kernel
theorem dX12_ofPart_32 : decode cX12_ofPart 32 = .ok (.invokevirtual 264, 3) := by decide +kernel
theorem dX12_ofPart_35 : decode cX12_ofPart 35 = .ok (.goto 8, 3) := by decide +kernel
theorem dX12_ofPart_38 : decode cX12_ofPart 38 = .ok (.aload_n 0, 1) := by decide +kernel
theorem dX12_ofPart_39 : decode cX12_ofPart 39 = .ok (.iconst 2, 1) := by decide +kernel
theorem dX12_ofPart_40 : decode cX12_ofPart 40 = .ok (.invokevirtual 50, 3) := by decide +kernel
theorem dX12_ofPart_43 : decode cX12_ofPart 43 = .ok (.ireturn, 1) := by decide +kernel
theorem dX12_ofPlayerNow_0 : decode cX12_ofPlayerNow 0 = .ok (.aload_n 0, 1) := by decide +kernel
theorem dX12_ofPlayerNow_1 : decode cX12_ofPlayerNow 1 = .ok (.getfield 16, 3) := by decide +kernel
theorem dX12_ofPlayerNow_4 : decode cX12_ofPlayerNow 4 = .ok (.iload_n 1, 1) := by decide +kernel
theorem dX12_ofPlayerNow_5 : decode cX12_ofPlayerNow 5 = .ok (.invokevirtual 97, 3) := by decide +kernel
theorem dX12_ofPlayerNow_8 : decode cX12_ofPlayerNow 8 = .ok (.checkcast 74, 3) := by decide +kernel
theorem dX12_ofPlayerNow_11 : decode cX12_ofPlayerNow 11 = .ok (.astore_n 3, 1) := by decide +kernel
theorem dX12_ofPlayerNow_12 : decode cX12_ofPlayerNow 12 = .ok (.iload_n 2, 1) := by decide +kernel
theorem dX12_ofPlayerNow_13 : decode cX12_ofPlayerNow 13 = .ok (.tableswitch 69 0 4 #[35, 40, 45, 50, 63], 35) := by decide +kernel
theorem dX12_ofPlayerNow_48 : decode cX12_ofPlayerNow 48 = .ok (.aload_n 3, 1) := by decide +kernel
theorem dX12_ofPlayerNow_49 : decode cX12_ofPlayerNow 49 = .ok (.getfield 77, 3) := by decide +kernel
theorem dX12_ofPlayerNow_52 : decode cX12_ofPlayerNow 52 = .ok (.ireturn, 1) := by decide +kernel
theorem dX12_ofPlayerNow_53 : decode cX12_ofPlayerNow 53 = .ok (.aload_n 3, 1) := by decide +kernel
theorem dX12_ofPlayerNow_54 : decode cX12_ofPlayerNow 54 = .ok (.getfield 80, 3) := by decide +kernel
theorem dX12_ofPlayerNow_57 : decode cX12_ofPlayerNow 57 = .ok (.ireturn, 1) := by decide +kernel
theorem dX12_ofPlayerNow_58 : decode cX12_ofPlayerNow 58 = .ok (.aload_n 3, 1) := by decide +kernel
theorem dX12_ofPlayerNow_59 : decode cX12_ofPlayerNow 59 = .ok (.getfield 82, 3) := by decide +kernel
theorem dX12_ofPlayerNow_62 : decode cX12_ofPlayerNow 62 = .ok (.ireturn, 1) := by decide +kernel
theorem dX12_ofPlayerNow_63 : decode cX12_ofPlayerNow 63 = .ok (.aload_n 3, 1) := by decide +kernel
theorem dX12_ofPlayerNow_64 : decode cX12_ofPlayerNow 64 = .ok (.getfield 115, 3) := by decide +kernel
theorem dX12_ofPlayerNow_67 : decode cX12_ofPlayerNow 67 = .ok (.ifCond .eq 7, 3) := by decide +kernel
theorem dX12_ofPlayerNow_70 : decode cX12_ofPlayerNow 70 = .ok (.iconst 1, 1) := by decide +kernel
theorem dX12_ofPlayerNow_71 : decode cX12_ofPlayerNow 71 = .ok (.goto 4, 3) := by decide +kernel
theorem dX12_ofPlayerNow_74 : decode cX12_ofPlayerNow 74 = .ok (.iconst 0, 1) := by decide +kernel
theorem dX12_ofPlayerNow_75 : decode cX12_ofPlayerNow 75 = .ok (.ireturn, 1) := by decide +kernel
theorem dX12_ofPlayerNow_76 : decode cX12_ofPlayerNow 76 = .ok (.aload_n 0, 1) := by decide +kernel
theorem dX12_ofPlayerNow_77 : decode cX12_ofPlayerNow 77 = .ok (.iload_n 1, 1) := by decide +kernel
theorem dX12_ofPlayerNow_78 : decode cX12_ofPlayerNow 78 = .ok (.invokevirtual 222, 3) := by decide +kernel
theorem dX12_ofPlayerNow_81 : decode cX12_ofPlayerNow 81 = .ok (.ireturn, 1) := by decide +kernel
theorem dX12_ofPlayerNow_82 : decode cX12_ofPlayerNow 82 = .ok (.aload_n 3, 1) := by decide +kernel
theorem dX12_ofPlayerNow_83 : decode cX12_ofPlayerNow 83 = .ok (.getfield 141, 3) := by decide +kernel
theorem dX12_ofPlayerNow_86 : decode cX12_ofPlayerNow 86 = .ok (.ireturn, 1) := by decide +kernel
theorem dX12_ofPlayer_0 : decode cX12_ofPlayer 0 = .ok (.aload_n 0, 1) := by decide +kernel
theorem dX12_ofPlayer_1 : decode cX12_ofPlayer 1 = .ok (.iconst 0, 1) := by decide +kernel
theorem dX12_ofPlayer_2 : decode cX12_ofPlayer 2 = .ok (.putfield 38, 3) := by decide +kernel
theorem dX12_ofPlayer_5 : decode cX12_ofPlayer 5 = .ok (.aload_n 0, 1) := by decide +kernel
theorem dX12_ofPlayer_6 : decode cX12_ofPlayer 6 = .ok (.iload_n 1, 1) := by decide +kernel
theorem dX12_ofPlayer_7 : decode cX12_ofPlayer 7 = .ok (.invokevirtual 118, 3) := by decide +kernel
theorem dX12_ofPlayer_10 : decode cX12_ofPlayer 10 = .ok (.ifCond .ne 9, 3) := by decide +kernel
theorem dX12_ofPlayer_13 : decode cX12_ofPlayer 13 = .ok (.aload_n 0, 1) := by decide +kernel
theorem dX12_ofPlayer_14 : decode cX12_ofPlayer 14 = .ok (.iconst 1, 1) := by decide +kernel
theorem dX12_ofPlayer_15 : decode cX12_ofPlayer 15 = .ok (.invokevirtual 50, 3) := by decide +kernel
theorem dX12_ofPlayer_18 : decode cX12_ofPlayer 18 = .ok (.ireturn, 1) := by decide +kernel
theorem dX12_ofPlayer_19 : decode cX12_ofPlayer 19 = .ok (.iload_n 2, 1) := by decide +kernel
theorem dX12_ofPlayer_20 : decode cX12_ofPlayer 20 = .ok (.iconst 0, 1) := by decide +kernel
theorem dX12_ofPlayer_21 : decode cX12_ofPlayer 21 = .ok (.iconst 5, 1) := by decide +kernel
theorem dX12_ofPlayer_22 : decode cX12_ofPlayer 22 = .ok (.invokestatic 46, 3) := by decide +kernel
theorem dX12_ofPlayer_25 : decode cX12_ofPlayer 25 = .ok (.ifCond .eq 12, 3) := by decide +kernel
theorem dX12_ofPlayer_28 : decode cX12_ofPlayer 28 = .ok (.aload_n 0, 1) := by decide +kernel
theorem dX12_ofPlayer_29 : decode cX12_ofPlayer 29 = .ok (.iload_n 1, 1) := by decide +kernel
theorem dX12_ofPlayer_30 : decode cX12_ofPlayer 30 = .ok (.iload_n 2, 1) := by decide +kernel
theorem dX12_ofPlayer_31 : decode cX12_ofPlayer 31 = .ok (.invokevirtual 267, 3) := by decide +kernel
theorem dX12_ofPlayer_34 : decode cX12_ofPlayer 34 = .ok (.goto 8, 3) := by decide +kernel
theorem dX12_ofPlayer_37 : decode cX12_ofPlayer 37 = .ok (.aload_n 0, 1) := by decide +kernel
theorem dX12_ofPlayer_38 : decode cX12_ofPlayer 38 = .ok (.iconst 2, 1) := by decide +kernel
theorem dX12_ofPlayer_39 : decode cX12_ofPlayer 39 = .ok (.invokevirtual 50, 3) := by decide +kernel
theorem dX12_ofPlayer_42 : decode cX12_ofPlayer 42 = .ok (.ireturn, 1) := by decide +kernel
theorem dX12_ofSceneNow_0 : decode cX12_ofSceneNow 0 = .ok (.aload_n 0, 1) := by decide +kernel
theorem dX12_ofSceneNow_1 : decode cX12_ofSceneNow 1 = .ok (.getfield 19, 3) := by decide +kernel
theorem dX12_ofSceneNow_4 : decode cX12_ofSceneNow 4 = .ok (.iload_n 1, 1) := by decide +kernel
theorem dX12_ofSceneNow_5 : decode cX12_ofSceneNow 5 = .ok (.invokevirtual 97, 3) := by decide +kernel
theorem dX12_ofSceneNow_8 : decode cX12_ofSceneNow 8 = .ok (.checkcast 85, 3) := by decide +kernel
theorem dX12_ofSceneNow_11 : decode cX12_ofSceneNow 11 = .ok (.getfield 88, 3) := by decide +kernel
theorem dX12_ofSceneNow_14 : decode cX12_ofSceneNow 14 = .ok (.istore_n 3, 1) := by decide +kernel
theorem dX12_ofSceneNow_15 : decode cX12_ofSceneNow 15 = .ok (.iload_n 2, 1) := by decide +kernel
theorem dX12_ofSceneNow_16 : decode cX12_ofSceneNow 16 = .ok (.tableswitch 75 0 4 #[36, 38, 53, 59, 65], 36) := by decide +kernel
theorem dX12_ofSceneNow_52 : decode cX12_ofSceneNow 52 = .ok (.iload_n 3, 1) := by decide +kernel
theorem dX12_ofSceneNow_53 : decode cX12_ofSceneNow 53 = .ok (.ireturn, 1) := by decide +kernel
theorem dX12_ofSceneNow_54 : decode cX12_ofSceneNow 54 = .ok (.aload_n 0, 1) := by decide +kernel
theorem dX12_ofSceneNow_55 : decode cX12_ofSceneNow 55 = .ok (.getfield 19, 3) := by decide +kernel
theorem dX12_ofSceneNow_58 : decode cX12_ofSceneNow 58 = .ok (.iload_n 1, 1) := by decide +kernel
theorem dX12_ofSceneNow_59 : decode cX12_ofSceneNow 59 = .ok (.invokevirtual 97, 3) := by decide +kernel
theorem dX12_ofSceneNow_62 : decode cX12_ofSceneNow 62 = .ok (.checkcast 85, 3) := by decide +kernel
theorem dX12_ofSceneNow_65 : decode cX12_ofSceneNow 65 = .ok (.getfield 90, 3) := by decide +kernel
theorem dX12_ofSceneNow_68 : decode cX12_ofSceneNow 68 = .ok (.ireturn, 1) := by decide +kernel
theorem dX12_ofSceneNow_69 : decode cX12_ofSceneNow 69 = .ok (.aload_n 0, 1) := by decide +kernel
theorem dX12_ofSceneNow_70 : decode cX12_ofSceneNow 70 = .ok (.iload_n 3, 1) := by decide +kernel
theorem dX12_ofSceneNow_71 : decode cX12_ofSceneNow 71 = .ok (.invokevirtual 270, 3) := by decide +kernel
theorem dX12_ofSceneNow_74 : decode cX12_ofSceneNow 74 = .ok (.ireturn, 1) := by decide +kernel
theorem dX12_ofSceneNow_75 : decode cX12_ofSceneNow 75 = .ok (.aload_n 0, 1) := by decide +kernel
theorem dX12_ofSceneNow_76 : decode cX12_ofSceneNow 76 = .ok (.iload_n 3, 1) := by decide +kernel
theorem dX12_ofSceneNow_77 : decode cX12_ofSceneNow 77 = .ok (.invokevirtual 273, 3) := by decide +kernel
theorem dX12_ofSceneNow_80 : decode cX12_ofSceneNow 80 = .ok (.ireturn, 1) := by decide +kernel
theorem dX12_ofSceneNow_81 : decode cX12_ofSceneNow 81 = .ok (.aload_n 0, 1) := by decide +kernel
theorem dX12_ofSceneNow_82 : decode cX12_ofSceneNow 82 = .ok (.aload_n 0, 1) := by decide +kernel
theorem dX12_ofSceneNow_83 : decode cX12_ofSceneNow 83 = .ok (.iload_n 3, 1) := by decide +kernel
theorem dX12_ofSceneNow_84 : decode cX12_ofSceneNow 84 = .ok (.invokevirtual 273, 3) := by decide +kernel
theorem dX12_ofSceneNow_87 : decode cX12_ofSceneNow 87 = .ok (.invokevirtual 197, 3) := by decide +kernel
theorem dX12_ofSceneNow_90 : decode cX12_ofSceneNow 90 = .ok (.ireturn, 1) := by decide +kernel
theorem dX12_ofSceneNow_91 : decode cX12_ofSceneNow 91 = .ok (.aload_n 0, 1) := by decide +kernel
theorem dX12_ofSceneNow_92 : decode cX12_ofSceneNow 92 = .ok (.iload_n 3, 1) := by decide +kernel
theorem dX12_ofSceneNow_93 : decode cX12_ofSceneNow 93 = .ok (.invokevirtual 276, 3) := by decide +kernel
theorem dX12_ofSceneNow_96 : decode cX12_ofSceneNow 96 = .ok (.ireturn, 1) := by decide +kernel
theorem dX12_ofScene_0 : decode cX12_ofScene 0 = .ok (.aload_n 0, 1) := by decide +kernel
theorem dX12_ofScene_1 : decode cX12_ofScene 1 = .ok (.iconst 0, 1) := by decide +kernel
theorem dX12_ofScene_2 : decode cX12_ofScene 2 = .ok (.putfield 38, 3) := by decide +kernel
theorem dX12_ofScene_5 : decode cX12_ofScene 5 = .ok (.aload_n 0, 1) := by decide +kernel
theorem dX12_ofScene_6 : decode cX12_ofScene 6 = .ok (.iload_n 1, 1) := by decide +kernel
theorem dX12_ofScene_7 : decode cX12_ofScene 7 = .ok (.invokevirtual 93, 3) := by decide +kernel
theorem dX12_ofScene_10 : decode cX12_ofScene 10 = .ok (.ifCond .ne 9, 3) := by decide +kernel
theorem dX12_ofScene_13 : decode cX12_ofScene 13 = .ok (.aload_n 0, 1) := by decide +kernel
theorem dX12_ofScene_14 : decode cX12_ofScene 14 = .ok (.iconst 1, 1) := by decide +kernel
theorem dX12_ofScene_15 : decode cX12_ofScene 15 = .ok (.invokevirtual 50, 3) := by decide +kernel
theorem dX12_ofScene_18 : decode cX12_ofScene 18 = .ok (.ireturn, 1) := by decide +kernel
theorem dX12_ofScene_19 : decode cX12_ofScene 19 = .ok (.iload_n 2, 1) := by decide +kernel
theorem dX12_ofScene_20 : decode cX12_ofScene 20 = .ok (.iconst 0, 1) := by decide +kernel
theorem dX12_ofScene_21 : decode cX12_ofScene 21 = .ok (.iconst 5, 1) := by decide +kernel
theorem dX12_ofScene_22 : decode cX12_ofScene 22 = .ok (.invokestatic 46, 3) := by decide +kernel
theorem dX12_ofScene_25 : decode cX12_ofScene 25 = .ok (.ifCond .eq 12, 3) := by decide +kernel
theorem dX12_ofScene_28 : decode cX12_ofScene 28 = .ok (.aload_n 0, 1) := by decide +kernel
theorem dX12_ofScene_29 : decode cX12_ofScene 29 = .ok (.iload_n 1, 1) := by decide +kernel
theorem dX12_ofScene_30 : decode cX12_ofScene 30 = .ok (.iload_n 2, 1) := by decide +kernel
theorem dX12_ofScene_31 : decode cX12_ofScene 31 = .ok (.invokevirtual 279, 3) := by decide +kernel
theorem dX12_ofScene_34 : decode cX12_ofScene 34 = .ok (.goto 8, 3) := by decide +kernel
theorem dX12_ofScene_37 : decode cX12_ofScene 37 = .ok (.aload_n 0, 1) := by decide +kernel
theorem dX12_ofScene_38 : decode cX12_ofScene 38 = .ok (.iconst 2, 1) := by decide +kernel
theorem dX12_ofScene_39 : decode cX12_ofScene 39 = .ok (.invokevirtual 50, 3) := by decide +kernel
theorem dX12_ofScene_42 : decode cX12_ofScene 42 = .ok (.ireturn, 1) := by decide +kernel
theorem dX12_ofCoatNow_0 : decode cX12_ofCoatNow 0 = .ok (.aload_n 0, 1) := by decide +kernel
theorem dX12_ofCoatNow_1 : decode cX12_ofCoatNow 1 = .ok (.getfield 22, 3) := by decide +kernel
theorem dX12_ofCoatNow_4 : decode cX12_ofCoatNow 4 = .ok (.iload_n 1, 1) := by decide +kernel
theorem dX12_ofCoatNow_5 : decode cX12_ofCoatNow 5 = .ok (.invokevirtual 97, 3) := by decide +kernel
theorem dX12_ofCoatNow_8 : decode cX12_ofCoatNow 8 = .ok (.checkcast 124, 3) := by decide +kernel
theorem dX12_ofCoatNow_11 : decode cX12_ofCoatNow 11 = .ok (.astore_n 3, 1) := by decide +kernel
theorem dX12_ofCoatNow_12 : decode cX12_ofCoatNow 12 = .ok (.iload_n 2, 1) := by decide +kernel
theorem dX12_ofCoatNow_13 : decode cX12_ofCoatNow 13 = .ok (.ifCond .ne 10, 3) := by decide +kernel
theorem dX12_ofCoatNow_16 : decode cX12_ofCoatNow 16 = .ok (.aload_n 3, 1) := by decide +kernel
theorem dX12_ofCoatNow_17 : decode cX12_ofCoatNow 17 = .ok (.getfield 127, 3) := by decide +kernel
theorem dX12_ofCoatNow_20 : decode cX12_ofCoatNow 20 = .ok (.goto 39, 3) := by decide +kernel
theorem dX12_ofCoatNow_23 : decode cX12_ofCoatNow 23 = .ok (.iload_n 2, 1) := by decide +kernel
theorem dX12_ofCoatNow_24 : decode cX12_ofCoatNow 24 = .ok (.iconst 1, 1) := by decide +kernel
theorem dX12_ofCoatNow_25 : decode cX12_ofCoatNow 25 = .ok (.if_icmp .ne 10, 3) := by decide +kernel
theorem dX12_ofCoatNow_28 : decode cX12_ofCoatNow 28 = .ok (.aload_n 3, 1) := by decide +kernel
theorem dX12_ofCoatNow_29 : decode cX12_ofCoatNow 29 = .ok (.getfield 128, 3) := by decide +kernel
theorem dX12_ofCoatNow_32 : decode cX12_ofCoatNow 32 = .ok (.goto 27, 3) := by decide +kernel
theorem dX12_ofCoatNow_35 : decode cX12_ofCoatNow 35 = .ok (.iload_n 2, 1) := by decide +kernel
theorem dX12_ofCoatNow_36 : decode cX12_ofCoatNow 36 = .ok (.iconst 2, 1) := by decide +kernel
theorem dX12_ofCoatNow_37 : decode cX12_ofCoatNow 37 = .ok (.if_icmp .ne 10, 3) := by decide +kernel
theorem dX12_ofCoatNow_40 : decode cX12_ofCoatNow 40 = .ok (.aload_n 3, 1) := by decide +kernel
theorem dX12_ofCoatNow_41 : decode cX12_ofCoatNow 41 = .ok (.getfield 129, 3) := by decide +kernel
theorem dX12_ofCoatNow_44 : decode cX12_ofCoatNow 44 = .ok (.goto 15, 3) := by decide +kernel
theorem dX12_ofCoatNow_47 : decode cX12_ofCoatNow 47 = .ok (.aload_n 3, 1) := by decide +kernel
theorem dX12_ofCoatNow_48 : decode cX12_ofCoatNow 48 = .ok (.getfield 135, 3) := by decide +kernel
theorem dX12_ofCoatNow_51 : decode cX12_ofCoatNow 51 = .ok (.ifCond .eq 7, 3) := by decide +kernel
theorem dX12_ofCoatNow_54 : decode cX12_ofCoatNow 54 = .ok (.iconst 1, 1) := by decide +kernel
theorem dX12_ofCoatNow_55 : decode cX12_ofCoatNow 55 = .ok (.goto 4, 3) := by decide +kernel
theorem dX12_ofCoatNow_58 : decode cX12_ofCoatNow 58 = .ok (.iconst 0, 1) := by decide +kernel
theorem dX12_ofCoatNow_59 : decode cX12_ofCoatNow 59 = .ok (.ireturn, 1) := by decide +kernel
theorem dX12_ofCoat_0 : decode cX12_ofCoat 0 = .ok (.aload_n 0, 1) := by decide +kernel
theorem dX12_ofCoat_1 : decode cX12_ofCoat 1 = .ok (.iconst 0, 1) := by decide +kernel
theorem dX12_ofCoat_2 : decode cX12_ofCoat 2 = .ok (.putfield 38, 3) := by decide +kernel
theorem dX12_ofCoat_5 : decode cX12_ofCoat 5 = .ok (.aload_n 0, 1) := by decide +kernel
theorem dX12_ofCoat_6 : decode cX12_ofCoat 6 = .ok (.iload_n 1, 1) := by decide +kernel
theorem dX12_ofCoat_7 : decode cX12_ofCoat 7 = .ok (.invokevirtual 132, 3) := by decide +kernel
theorem dX12_ofCoat_10 : decode cX12_ofCoat 10 = .ok (.ifCond .ne 9, 3) := by decide +kernel
theorem dX12_ofCoat_13 : decode cX12_ofCoat 13 = .ok (.aload_n 0, 1) := by decide +kernel
theorem dX12_ofCoat_14 : decode cX12_ofCoat 14 = .ok (.iconst 1, 1) := by decide +kernel
theorem dX12_ofCoat_15 : decode cX12_ofCoat 15 = .ok (.invokevirtual 50, 3) := by decide +kernel
theorem dX12_ofCoat_18 : decode cX12_ofCoat 18 = .ok (.ireturn, 1) := by decide +kernel
theorem dX12_ofCoat_19 : decode cX12_ofCoat 19 = .ok (.iload_n 2, 1) := by decide +kernel
theorem dX12_ofCoat_20 : decode cX12_ofCoat 20 = .ok (.iconst 0, 1) := by decide +kernel
theorem dX12_ofCoat_21 : decode cX12_ofCoat 21 = .ok (.iconst 3, 1) := by decide +kernel
theorem dX12_ofCoat_22 : decode cX12_ofCoat 22 = .ok (.invokestatic 46, 3) := by decide +kernel
theorem dX12_ofCoat_25 : decode cX12_ofCoat 25 = .ok (.ifCond .eq 12, 3) := by decide +kernel
theorem dX12_ofCoat_28 : decode cX12_ofCoat 28 = .ok (.aload_n 0, 1) := by decide +kernel
theorem dX12_ofCoat_29 : decode cX12_ofCoat 29 = .ok (.iload_n 1, 1) := by decide +kernel
theorem dX12_ofCoat_30 : decode cX12_ofCoat 30 = .ok (.iload_n 2, 1) := by decide +kernel
theorem dX12_ofCoat_31 : decode cX12_ofCoat 31 = .ok (.invokevirtual 282, 3) := by decide +kernel
theorem dX12_ofCoat_34 : decode cX12_ofCoat 34 = .ok (.goto 8, 3) := by decide +kernel
theorem dX12_ofCoat_37 : decode cX12_ofCoat 37 = .ok (.aload_n 0, 1) := by decide +kernel
theorem dX12_ofCoat_38 : decode cX12_ofCoat 38 = .ok (.iconst 2, 1) := by decide +kernel
theorem dX12_ofCoat_39 : decode cX12_ofCoat 39 = .ok (.invokevirtual 50, 3) := by decide +kernel
theorem dX12_ofCoat_42 : decode cX12_ofCoat 42 = .ok (.ireturn, 1) := by decide +kernel
theorem dX12_ofTownNow_0 : decode cX12_ofTownNow 0 = .ok (.aload_n 0, 1) := by decide +kernel
theorem dX12_ofTownNow_1 : decode cX12_ofTownNow 1 = .ok (.getfield 25, 3) := by decide +kernel
theorem dX12_ofTownNow_4 : decode cX12_ofTownNow 4 = .ok (.iload_n 1, 1) := by decide +kernel
theorem dX12_ofTownNow_5 : decode cX12_ofTownNow 5 = .ok (.invokevirtual 97, 3) := by decide +kernel
theorem dX12_ofTownNow_8 : decode cX12_ofTownNow 8 = .ok (.checkcast 147, 3) := by decide +kernel
theorem dX12_ofTownNow_11 : decode cX12_ofTownNow 11 = .ok (.astore_n 3, 1) := by decide +kernel
theorem dX12_ofTownNow_12 : decode cX12_ofTownNow 12 = .ok (.iload_n 2, 1) := by decide +kernel
theorem dX12_ofTownNow_13 : decode cX12_ofTownNow 13 = .ok (.ifCond .ne 10, 3) := by decide +kernel
theorem dX12_ofTownNow_16 : decode cX12_ofTownNow 16 = .ok (.aload_n 3, 1) := by decide +kernel
theorem dX12_ofTownNow_17 : decode cX12_ofTownNow 17 = .ok (.getfield 150, 3) := by decide +kernel
theorem dX12_ofTownNow_20 : decode cX12_ofTownNow 20 = .ok (.goto 40, 3) := by decide +kernel
theorem dX12_ofTownNow_23 : decode cX12_ofTownNow 23 = .ok (.iload_n 2, 1) := by decide +kernel
theorem dX12_ofTownNow_24 : decode cX12_ofTownNow 24 = .ok (.iconst 1, 1) := by decide +kernel
theorem dX12_ofTownNow_25 : decode cX12_ofTownNow 25 = .ok (.if_icmp .ne 10, 3) := by decide +kernel
theorem dX12_ofTownNow_28 : decode cX12_ofTownNow 28 = .ok (.aload_n 3, 1) := by decide +kernel
theorem dX12_ofTownNow_29 : decode cX12_ofTownNow 29 = .ok (.getfield 153, 3) := by decide +kernel
theorem dX12_ofTownNow_32 : decode cX12_ofTownNow 32 = .ok (.goto 28, 3) := by decide +kernel
theorem dX12_ofTownNow_35 : decode cX12_ofTownNow 35 = .ok (.iload_n 2, 1) := by decide +kernel
theorem dX12_ofTownNow_36 : decode cX12_ofTownNow 36 = .ok (.iconst 2, 1) := by decide +kernel
theorem dX12_ofTownNow_37 : decode cX12_ofTownNow 37 = .ok (.if_icmp .ne 10, 3) := by decide +kernel
theorem dX12_ofTownNow_40 : decode cX12_ofTownNow 40 = .ok (.aload_n 3, 1) := by decide +kernel
theorem dX12_ofTownNow_41 : decode cX12_ofTownNow 41 = .ok (.getfield 156, 3) := by decide +kernel
theorem dX12_ofTownNow_44 : decode cX12_ofTownNow 44 = .ok (.goto 16, 3) := by decide +kernel
theorem dX12_ofTownNow_47 : decode cX12_ofTownNow 47 = .ok (.aload_n 3, 1) := by decide +kernel
theorem dX12_ofTownNow_48 : decode cX12_ofTownNow 48 = .ok (.getfield 150, 3) := by decide +kernel
theorem dX12_ofTownNow_51 : decode cX12_ofTownNow 51 = .ok (.aload_n 3, 1) := by decide +kernel
theorem dX12_ofTownNow_52 : decode cX12_ofTownNow 52 = .ok (.getfield 153, 3) := by decide +kernel
theorem dX12_ofTownNow_55 : decode cX12_ofTownNow 55 = .ok (.iconst 0, 1) := by decide +kernel
theorem dX12_ofTownNow_56 : decode cX12_ofTownNow 56 = .ok (.iconst 0, 1) := by decide +kernel
theorem dX12_ofTownNow_57 : decode cX12_ofTownNow 57 = .ok (.invokestatic 241, 3) := by decide +kernel
theorem dX12_ofTownNow_60 : decode cX12_ofTownNow 60 = .ok (.ireturn, 1) := by decide +kernel
theorem dX12_ofTown_0 : decode cX12_ofTown 0 = .ok (.aload_n 0, 1) := by decide +kernel
theorem dX12_ofTown_1 : decode cX12_ofTown 1 = .ok (.iconst 0, 1) := by decide +kernel
theorem dX12_ofTown_2 : decode cX12_ofTown 2 = .ok (.putfield 38, 3) := by decide +kernel
theorem dX12_ofTown_5 : decode cX12_ofTown 5 = .ok (.aload_n 0, 1) := by decide +kernel
theorem dX12_ofTown_6 : decode cX12_ofTown 6 = .ok (.iload_n 1, 1) := by decide +kernel
theorem dX12_ofTown_7 : decode cX12_ofTown 7 = .ok (.invokevirtual 228, 3) := by decide +kernel
theorem dX12_ofTown_10 : decode cX12_ofTown 10 = .ok (.ifCond .ne 9, 3) := by decide +kernel
theorem dX12_ofTown_13 : decode cX12_ofTown 13 = .ok (.aload_n 0, 1) := by decide +kernel
theorem dX12_ofTown_14 : decode cX12_ofTown 14 = .ok (.iconst 1, 1) := by decide +kernel
theorem dX12_ofTown_15 : decode cX12_ofTown 15 = .ok (.invokevirtual 50, 3) := by decide +kernel
theorem dX12_ofTown_18 : decode cX12_ofTown 18 = .ok (.ireturn, 1) := by decide +kernel
theorem dX12_ofTown_19 : decode cX12_ofTown 19 = .ok (.iload_n 2, 1) := by decide +kernel
theorem dX12_ofTown_20 : decode cX12_ofTown 20 = .ok (.iconst 0, 1) := by decide +kernel
theorem dX12_ofTown_21 : decode cX12_ofTown 21 = .ok (.iconst 3, 1) := by decide +kernel
theorem dX12_ofTown_22 : decode cX12_ofTown 22 = .ok (.invokestatic 46, 3) := by decide +kernel
theorem dX12_ofTown_25 : decode cX12_ofTown 25 = .ok (.ifCond .eq 12, 3) := by decide +kernel
theorem dX12_ofTown_28 : decode cX12_ofTown 28 = .ok (.aload_n 0, 1) := by decide +kernel
theorem dX12_ofTown_29 : decode cX12_ofTown 29 = .ok (.iload_n 1, 1) := by decide +kernel
theorem dX12_ofTown_30 : decode cX12_ofTown 30 = .ok (.iload_n 2, 1) := by decide +kernel
theorem dX12_ofTown_31 : decode cX12_ofTown 31 = .ok (.invokevirtual 285, 3) := by decide +kernel
theorem dX12_ofTown_34 : decode cX12_ofTown 34 = .ok (.goto 8, 3) := by decide +kernel
theorem dX12_ofTown_37 : decode cX12_ofTown 37 = .ok (.aload_n 0, 1) := by decide +kernel
theorem dX12_ofTown_38 : decode cX12_ofTown 38 = .ok (.iconst 2, 1) := by decide +kernel
theorem dX12_ofTown_39 : decode cX12_ofTown 39 = .ok (.invokevirtual 50, 3) := by decide +kernel
theorem dX12_ofTown_42 : decode cX12_ofTown 42 = .ok (.ireturn, 1) := by decide +kernel
theorem dX12_purses_0 : decode cX12_purses 0 = .ok (.iconst 0, 1) := by decide +kernel
theorem dX12_purses_1 : decode cX12_purses 1 = .ok (.istore_n 1, 1) := by decide +kernel
theorem dX12_purses_2 : decode cX12_purses 2 = .ok (.aload_n 0, 1) := by decide +kernel
theorem dX12_purses_3 : decode cX12_purses 3 = .ok (.getfield 16, 3) := by decide +kernel
theorem dX12_purses_6 : decode cX12_purses 6 = .ok (.invokevirtual 101, 3) := by decide +kernel
theorem dX12_purses_9 : decode cX12_purses 9 = .ok (.astore_n 2, 1) := by decide +kernel
theorem dX12_purses_10 : decode cX12_purses 10 = .ok (.aload_n 2, 1) := by decide +kernel
theorem dX12_purses_11 : decode cX12_purses 11 = .ok (.invokeinterface 105 1, 5) := by decide +kernel
theorem dX12_purses_16 : decode cX12_purses 16 = .ok (.ifCond .eq 23, 3) := by decide +kernel
theorem dX12_purses_19 : decode cX12_purses 19 = .ok (.aload_n 2, 1) := by decide +kernel
theorem dX12_purses_20 : decode cX12_purses 20 = .ok (.invokeinterface 111 1, 5) := by decide +kernel
theorem dX12_purses_25 : decode cX12_purses 25 = .ok (.checkcast 74, 3) := by decide +kernel
theorem dX12_purses_28 : decode cX12_purses 28 = .ok (.astore_n 3, 1) := by decide +kernel
theorem dX12_purses_29 : decode cX12_purses 29 = .ok (.iload_n 1, 1) := by decide +kernel
theorem dX12_purses_30 : decode cX12_purses 30 = .ok (.aload_n 3, 1) := by decide +kernel
theorem dX12_purses_31 : decode cX12_purses 31 = .ok (.getfield 141, 3) := by decide +kernel
theorem dX12_purses_34 : decode cX12_purses 34 = .ok (.iadd, 1) := by decide +kernel
theorem dX12_purses_35 : decode cX12_purses 35 = .ok (.istore_n 1, 1) := by decide +kernel
theorem dX12_purses_36 : decode cX12_purses 36 = .ok (.goto (-26), 3) := by decide +kernel
theorem dX12_purses_39 : decode cX12_purses 39 = .ok (.iload_n 1, 1) := by decide +kernel
theorem dX12_purses_40 : decode cX12_purses 40 = .ok (.ireturn, 1) := by decide +kernel
theorem dX12_pawned_0 : decode cX12_pawned 0 = .ok (.iconst 0, 1) := by decide +kernel
theorem dX12_pawned_1 : decode cX12_pawned 1 = .ok (.istore_n 1, 1) := by decide +kernel
theorem dX12_pawned_2 : decode cX12_pawned 2 = .ok (.aload_n 0, 1) := by decide +kernel
theorem dX12_pawned_3 : decode cX12_pawned 3 = .ok (.getfield 22, 3) := by decide +kernel
theorem dX12_pawned_6 : decode cX12_pawned 6 = .ok (.invokevirtual 101, 3) := by decide +kernel
theorem dX12_pawned_9 : decode cX12_pawned 9 = .ok (.astore_n 2, 1) := by decide +kernel
theorem dX12_pawned_10 : decode cX12_pawned 10 = .ok (.aload_n 2, 1) := by decide +kernel
theorem dX12_pawned_11 : decode cX12_pawned 11 = .ok (.invokeinterface 105 1, 5) := by decide +kernel
theorem dX12_pawned_16 : decode cX12_pawned 16 = .ok (.ifCond .eq 31, 3) := by decide +kernel
theorem dX12_pawned_19 : decode cX12_pawned 19 = .ok (.aload_n 2, 1) := by decide +kernel
theorem dX12_pawned_20 : decode cX12_pawned 20 = .ok (.invokeinterface 111 1, 5) := by decide +kernel
theorem dX12_pawned_25 : decode cX12_pawned 25 = .ok (.checkcast 124, 3) := by decide +kernel
theorem dX12_pawned_28 : decode cX12_pawned 28 = .ok (.astore_n 3, 1) := by decide +kernel
theorem dX12_pawned_29 : decode cX12_pawned 29 = .ok (.iload_n 1, 1) := by decide +kernel
theorem dX12_pawned_30 : decode cX12_pawned 30 = .ok (.aload_n 3, 1) := by decide +kernel
theorem dX12_pawned_31 : decode cX12_pawned 31 = .ok (.getfield 135, 3) := by decide +kernel
theorem dX12_pawned_34 : decode cX12_pawned 34 = .ok (.ifCond .eq 7, 3) := by decide +kernel
theorem dX12_pawned_37 : decode cX12_pawned 37 = .ok (.iconst 1, 1) := by decide +kernel
theorem dX12_pawned_38 : decode cX12_pawned 38 = .ok (.goto 4, 3) := by decide +kernel
theorem dX12_pawned_41 : decode cX12_pawned 41 = .ok (.iconst 0, 1) := by decide +kernel
theorem dX12_pawned_42 : decode cX12_pawned 42 = .ok (.iadd, 1) := by decide +kernel
theorem dX12_pawned_43 : decode cX12_pawned 43 = .ok (.istore_n 1, 1) := by decide +kernel
theorem dX12_pawned_44 : decode cX12_pawned 44 = .ok (.goto (-34), 3) := by decide +kernel
theorem dX12_pawned_47 : decode cX12_pawned 47 = .ok (.iload_n 1, 1) := by decide +kernel
theorem dX12_pawned_48 : decode cX12_pawned 48 = .ok (.ireturn, 1) := by decide +kernel
theorem dX12_houseNow_0 : decode cX12_houseNow 0 = .ok (.iload_n 1, 1) := by decide +kernel
theorem dX12_houseNow_1 : decode cX12_houseNow 1 = .ok (.tableswitch 158 0 12 #[67, 75, 83, 88, 96, 104, 109, 117, 133, 138, 143, 148, 153], 67) := by decide +kernel
theorem dX12_houseNow_68 : decode cX12_houseNow 68 = .ok (.aload_n 0, 1) := by decide +kernel
theorem dX12_houseNow_69 : decode cX12_houseNow 69 = .ok (.getfield 10, 3) := by decide +kernel
theorem dX12_houseNow_72 : decode cX12_houseNow 72 = .ok (.invokevirtual 42, 3) := by decide +kernel
theorem dX12_houseNow_75 : decode cX12_houseNow 75 = .ok (.ireturn, 1) := by decide +kernel
theorem dX12_houseNow_76 : decode cX12_houseNow 76 = .ok (.aload_n 0, 1) := by decide +kernel
theorem dX12_houseNow_77 : decode cX12_houseNow 77 = .ok (.getfield 16, 3) := by decide +kernel
theorem dX12_houseNow_80 : decode cX12_houseNow 80 = .ok (.invokevirtual 42, 3) := by decide +kernel
theorem dX12_houseNow_83 : decode cX12_houseNow 83 = .ok (.ireturn, 1) := by decide +kernel
theorem dX12_houseNow_84 : decode cX12_houseNow 84 = .ok (.aload_n 0, 1) := by decide +kernel
theorem dX12_houseNow_85 : decode cX12_houseNow 85 = .ok (.invokevirtual 121, 3) := by decide +kernel
theorem dX12_houseNow_88 : decode cX12_houseNow 88 = .ok (.ireturn, 1) := by decide +kernel
theorem dX12_houseNow_89 : decode cX12_houseNow 89 = .ok (.aload_n 0, 1) := by decide +kernel
theorem dX12_houseNow_90 : decode cX12_houseNow 90 = .ok (.getfield 19, 3) := by decide +kernel
theorem dX12_houseNow_93 : decode cX12_houseNow 93 = .ok (.invokevirtual 42, 3) := by decide +kernel
theorem dX12_houseNow_96 : decode cX12_houseNow 96 = .ok (.ireturn, 1) := by decide +kernel
theorem dX12_houseNow_97 : decode cX12_houseNow 97 = .ok (.aload_n 0, 1) := by decide +kernel
theorem dX12_houseNow_98 : decode cX12_houseNow 98 = .ok (.getfield 22, 3) := by decide +kernel
theorem dX12_houseNow_101 : decode cX12_houseNow 101 = .ok (.invokevirtual 42, 3) := by decide +kernel
theorem dX12_houseNow_104 : decode cX12_houseNow 104 = .ok (.ireturn, 1) := by decide +kernel
theorem dX12_houseNow_105 : decode cX12_houseNow 105 = .ok (.aload_n 0, 1) := by decide +kernel
theorem dX12_houseNow_106 : decode cX12_houseNow 106 = .ok (.invokevirtual 288, 3) := by decide +kernel
theorem dX12_houseNow_109 : decode cX12_houseNow 109 = .ok (.ireturn, 1) := by decide +kernel
theorem dX12_houseNow_110 : decode cX12_houseNow 110 = .ok (.aload_n 0, 1) := by decide +kernel
theorem dX12_houseNow_111 : decode cX12_houseNow 111 = .ok (.getfield 25, 3) := by decide +kernel
theorem dX12_houseNow_114 : decode cX12_houseNow 114 = .ok (.invokevirtual 42, 3) := by decide +kernel
theorem dX12_houseNow_117 : decode cX12_houseNow 117 = .ok (.ireturn, 1) := by decide +kernel
theorem dX12_houseNow_118 : decode cX12_houseNow 118 = .ok (.aload_n 0, 1) := by decide +kernel
theorem dX12_houseNow_119 : decode cX12_houseNow 119 = .ok (.invokevirtual 219, 3) := by decide +kernel
theorem dX12_houseNow_122 : decode cX12_houseNow 122 = .ok (.ifCond .eq 10, 3) := by decide +kernel
theorem dX12_houseNow_125 : decode cX12_houseNow 125 = .ok (.aload_n 0, 1) := by decide +kernel
theorem dX12_houseNow_126 : decode cX12_houseNow 126 = .ok (.getfield 188, 3) := by decide +kernel
theorem dX12_houseNow_129 : decode cX12_houseNow 129 = .ok (.goto 4, 3) := by decide +kernel
theorem dX12_houseNow_132 : decode cX12_houseNow 132 = .ok (.iconst (-1), 1) := by decide +kernel
theorem dX12_houseNow_133 : decode cX12_houseNow 133 = .ok (.ireturn, 1) := by decide +kernel
theorem dX12_houseNow_134 : decode cX12_houseNow 134 = .ok (.aload_n 0, 1) := by decide +kernel
theorem dX12_houseNow_135 : decode cX12_houseNow 135 = .ok (.invokevirtual 291, 3) := by decide +kernel
theorem dX12_houseNow_138 : decode cX12_houseNow 138 = .ok (.ireturn, 1) := by decide +kernel
theorem dX12_houseNow_139 : decode cX12_houseNow 139 = .ok (.aload_n 0, 1) := by decide +kernel
theorem dX12_houseNow_140 : decode cX12_houseNow 140 = .ok (.getfield 138, 3) := by decide +kernel
theorem dX12_houseNow_143 : decode cX12_houseNow 143 = .ok (.ireturn, 1) := by decide +kernel
theorem dX12_houseNow_144 : decode cX12_houseNow 144 = .ok (.aload_n 0, 1) := by decide +kernel
theorem dX12_houseNow_145 : decode cX12_houseNow 145 = .ok (.getfield 144, 3) := by decide +kernel
theorem dX12_houseNow_148 : decode cX12_houseNow 148 = .ok (.ireturn, 1) := by decide +kernel
theorem dX12_houseNow_149 : decode cX12_houseNow 149 = .ok (.aload_n 0, 1) := by decide +kernel
theorem dX12_houseNow_150 : decode cX12_houseNow 150 = .ok (.invokevirtual 294, 3) := by decide +kernel
theorem dX12_houseNow_153 : decode cX12_houseNow 153 = .ok (.ireturn, 1) := by decide +kernel
theorem dX12_houseNow_154 : decode cX12_houseNow 154 = .ok (.aload_n 0, 1) := by decide +kernel
theorem dX12_houseNow_155 : decode cX12_houseNow 155 = .ok (.getfield 235, 3) := by decide +kernel
theorem dX12_houseNow_158 : decode cX12_houseNow 158 = .ok (.ireturn, 1) := by decide +kernel
theorem dX12_houseNow_159 : decode cX12_houseNow 159 = .ok (.aload_n 0, 1) := by decide +kernel
theorem dX12_houseNow_160 : decode cX12_houseNow 160 = .ok (.getfield 238, 3) := by decide +kernel
theorem dX12_houseNow_163 : decode cX12_houseNow 163 = .ok (.ireturn, 1) := by decide +kernel
theorem dX12_house_0 : decode cX12_house 0 = .ok (.aload_n 0, 1) := by decide +kernel
theorem dX12_house_1 : decode cX12_house 1 = .ok (.iconst 0, 1) := by decide +kernel
theorem dX12_house_2 : decode cX12_house 2 = .ok (.putfield 38, 3) := by decide +kernel
theorem dX12_house_5 : decode cX12_house 5 = .ok (.iload_n 1, 1) := by decide +kernel
theorem dX12_house_6 : decode cX12_house 6 = .ok (.iconst 0, 1) := by decide +kernel
theorem dX12_house_7 : decode cX12_house 7 = .ok (.bipush 13, 2) := by decide +kernel
theorem dX12_house_9 : decode cX12_house 9 = .ok (.invokestatic 46, 3) := by decide +kernel
theorem dX12_house_12 : decode cX12_house 12 = .ok (.ifCond .eq 11, 3) := by decide +kernel
theorem dX12_house_15 : decode cX12_house 15 = .ok (.aload_n 0, 1) := by decide +kernel
theorem dX12_house_16 : decode cX12_house 16 = .ok (.iload_n 1, 1) := by decide +kernel
theorem dX12_house_17 : decode cX12_house 17 = .ok (.invokevirtual 297, 3) := by decide +kernel
theorem dX12_house_20 : decode cX12_house 20 = .ok (.goto 8, 3) := by decide +kernel
theorem dX12_house_23 : decode cX12_house 23 = .ok (.aload_n 0, 1) := by decide +kernel
theorem dX12_house_24 : decode cX12_house 24 = .ok (.iconst 1, 1) := by decide +kernel
theorem dX12_house_25 : decode cX12_house 25 = .ok (.invokevirtual 50, 3) := by decide +kernel
theorem dX12_house_28 : decode cX12_house 28 = .ok (.ireturn, 1) := by decide +kernel
theorem dX12_castNow_0 : decode cX12_castNow 0 = .ok (.aload_n 0, 1) := by decide +kernel
theorem dX12_castNow_1 : decode cX12_castNow 1 = .ok (.invokevirtual 219, 3) := by decide +kernel
theorem dX12_castNow_4 : decode cX12_castNow 4 = .ok (.ifCond .ne 7, 3) := by decide +kernel
theorem dX12_castNow_7 : decode cX12_castNow 7 = .ok (.ldc_w 300, 3) := by decide +kernel
theorem dX12_castNow_10 : decode cX12_castNow 10 = .ok (.areturn, 1) := by decide +kernel
theorem dX12_castNow_11 : decode cX12_castNow 11 = .ok (.new 302, 3) := by decide +kernel
theorem dX12_castNow_14 : decode cX12_castNow 14 = .ok (.dup, 1) := by decide +kernel
theorem dX12_castNow_15 : decode cX12_castNow 15 = .ok (.invokespecial 304, 3) := by decide +kernel
theorem dX12_castNow_18 : decode cX12_castNow 18 = .ok (.astore_n 1, 1) := by decide +kernel
theorem dX12_castNow_19 : decode cX12_castNow 19 = .ok (.iconst 0, 1) := by decide +kernel
theorem dX12_castNow_20 : decode cX12_castNow 20 = .ok (.istore_n 2, 1) := by decide +kernel
theorem dX12_castNow_21 : decode cX12_castNow 21 = .ok (.iload_n 2, 1) := by decide +kernel
theorem dX12_castNow_22 : decode cX12_castNow 22 = .ok (.aload_n 0, 1) := by decide +kernel
theorem dX12_castNow_23 : decode cX12_castNow 23 = .ok (.getfield 10, 3) := by decide +kernel
theorem dX12_castNow_26 : decode cX12_castNow 26 = .ok (.invokevirtual 42, 3) := by decide +kernel
theorem dX12_castNow_29 : decode cX12_castNow 29 = .ok (.if_icmp .ge 39, 3) := by decide +kernel
theorem dX12_castNow_32 : decode cX12_castNow 32 = .ok (.aload_n 1, 1) := by decide +kernel
theorem dX12_castNow_33 : decode cX12_castNow 33 = .ok (.aload_n 0, 1) := by decide +kernel
theorem dX12_castNow_34 : decode cX12_castNow 34 = .ok (.getfield 28, 3) := by decide +kernel
theorem dX12_castNow_37 : decode cX12_castNow 37 = .ok (.iload_n 2, 1) := by decide +kernel
theorem dX12_castNow_38 : decode cX12_castNow 38 = .ok (.iaload, 1) := by decide +kernel
theorem dX12_castNow_39 : decode cX12_castNow 39 = .ok (.iconst (-1), 1) := by decide +kernel
theorem dX12_castNow_40 : decode cX12_castNow 40 = .ok (.if_icmp .ne 8, 3) := by decide +kernel
theorem dX12_castNow_43 : decode cX12_castNow 43 = .ok (.bipush 46, 2) := by decide +kernel
theorem dX12_castNow_45 : decode cX12_castNow 45 = .ok (.goto 13, 3) := by decide +kernel
theorem dX12_castNow_48 : decode cX12_castNow 48 = .ok (.bipush 48, 2) := by decide +kernel
theorem dX12_castNow_50 : decode cX12_castNow 50 = .ok (.aload_n 0, 1) := by decide +kernel
theorem dX12_castNow_51 : decode cX12_castNow 51 = .ok (.getfield 28, 3) := by decide +kernel
theorem dX12_castNow_54 : decode cX12_castNow 54 = .ok (.iload_n 2, 1) := by decide +kernel
theorem dX12_castNow_55 : decode cX12_castNow 55 = .ok (.iaload, 1) := by decide +kernel
theorem dX12_castNow_56 : decode cX12_castNow 56 = .ok (.iadd, 1) := by decide +kernel
theorem dX12_castNow_57 : decode cX12_castNow 57 = .ok (.i2c, 1) := by decide +kernel
theorem dX12_castNow_58 : decode cX12_castNow 58 = .ok (.invokevirtual 305, 3) := by decide +kernel
theorem dX12_castNow_61 : decode cX12_castNow 61 = .ok (.pop, 1) := by decide +kernel
theorem dX12_castNow_62 : decode cX12_castNow 62 = .ok (.iinc 2 1, 3) := by decide +kernel
theorem dX12_castNow_65 : decode cX12_castNow 65 = .ok (.goto (-44), 3) := by decide +kernel
theorem dX12_castNow_68 : decode cX12_castNow 68 = .ok (.aload_n 1, 1) := by decide +kernel
theorem dX12_castNow_69 : decode cX12_castNow 69 = .ok (.invokevirtual 309, 3) := by decide +kernel
theorem dX12_castNow_72 : decode cX12_castNow 72 = .ok (.areturn, 1) := by decide +kernel
theorem dX12_cast_0 : decode cX12_cast 0 = .ok (.aload_n 0, 1) := by decide +kernel
theorem dX12_cast_1 : decode cX12_cast 1 = .ok (.iconst 0, 1) := by decide +kernel
theorem dX12_cast_2 : decode cX12_cast 2 = .ok (.putfield 38, 3) := by decide +kernel
theorem dX12_cast_5 : decode cX12_cast 5 = .ok (.aload_n 0, 1) := by decide +kernel
theorem dX12_cast_6 : decode cX12_cast 6 = .ok (.invokevirtual 313, 3) := by decide +kernel
theorem dX12_cast_9 : decode cX12_cast 9 = .ok (.areturn, 1) := by decide +kernel
theorem dX12_tour_0 : decode cX12_tour 0 = .ok (.aload_n 0, 1) := by decide +kernel
theorem dX12_tour_1 : decode cX12_tour 1 = .ok (.iconst 0, 1) := by decide +kernel
theorem dX12_tour_2 : decode cX12_tour 2 = .ok (.putfield 38, 3) := by decide +kernel
theorem dX12_tour_5 : decode cX12_tour 5 = .ok (.iload_n 1, 1) := by decide +kernel
theorem dX12_tour_6 : decode cX12_tour 6 = .ok (.iconst 0, 1) := by decide +kernel
theorem dX12_tour_7 : decode cX12_tour 7 = .ok (.sipush 2000, 3) := by decide +kernel
theorem dX12_tour_10 : decode cX12_tour 10 = .ok (.invokestatic 46, 3) := by decide +kernel
theorem dX12_tour_13 : decode cX12_tour 13 = .ok (.ifCond .eq 21, 3) := by decide +kernel
theorem dX12_tour_16 : decode cX12_tour 16 = .ok (.iload_n 2, 1) := by decide +kernel
theorem dX12_tour_17 : decode cX12_tour 17 = .ok (.iconst 0, 1) := by decide +kernel
theorem dX12_tour_18 : decode cX12_tour 18 = .ok (.iconst 2, 1) := by decide +kernel
theorem dX12_tour_19 : decode cX12_tour 19 = .ok (.invokestatic 46, 3) := by decide +kernel
theorem dX12_tour_22 : decode cX12_tour 22 = .ok (.ifCond .eq 12, 3) := by decide +kernel
theorem dX12_tour_25 : decode cX12_tour 25 = .ok (.aload_n 0, 1) := by decide +kernel
theorem dX12_tour_26 : decode cX12_tour 26 = .ok (.iload_n 1, 1) := by decide +kernel
theorem dX12_tour_27 : decode cX12_tour 27 = .ok (.iload_n 2, 1) := by decide +kernel
theorem dX12_tour_28 : decode cX12_tour 28 = .ok (.invokevirtual 316, 3) := by decide +kernel
theorem dX12_tour_31 : decode cX12_tour 31 = .ok (.goto 8, 3) := by decide +kernel
theorem dX12_tour_34 : decode cX12_tour 34 = .ok (.aload_n 0, 1) := by decide +kernel
theorem dX12_tour_35 : decode cX12_tour 35 = .ok (.iconst 1, 1) := by decide +kernel
theorem dX12_tour_36 : decode cX12_tour 36 = .ok (.invokevirtual 50, 3) := by decide +kernel
theorem dX12_tour_39 : decode cX12_tour 39 = .ok (.ireturn, 1) := by decide +kernel
theorem dX12_would_0 : decode cX12_would 0 = .ok (.aload_n 0, 1) := by decide +kernel
theorem dX12_would_1 : decode cX12_would 1 = .ok (.iconst 0, 1) := by decide +kernel
theorem dX12_would_2 : decode cX12_would 2 = .ok (.putfield 38, 3) := by decide +kernel
theorem dX12_would_5 : decode cX12_would 5 = .ok (.iload_n 1, 1) := by decide +kernel
theorem dX12_would_6 : decode cX12_would 6 = .ok (.iconst 0, 1) := by decide +kernel
theorem dX12_would_7 : decode cX12_would 7 = .ok (.aload_n 0, 1) := by decide +kernel
theorem dX12_would_8 : decode cX12_would 8 = .ok (.invokevirtual 182, 3) := by decide +kernel
theorem dX12_would_11 : decode cX12_would 11 = .ok (.invokestatic 46, 3) := by decide +kernel
theorem dX12_would_14 : decode cX12_would 14 = .ok (.ifCond .eq 18, 3) := by decide +kernel
theorem dX12_would_17 : decode cX12_would 17 = .ok (.aload_n 0, 1) := by decide +kernel
theorem dX12_would_18 : decode cX12_would 18 = .ok (.aload_n 0, 1) := by decide +kernel
theorem dX12_would_19 : decode cX12_would 19 = .ok (.invokevirtual 182, 3) := by decide +kernel
theorem dX12_would_22 : decode cX12_would 22 = .ok (.iload_n 1, 1) := by decide +kernel
theorem dX12_would_23 : decode cX12_would 23 = .ok (.iconst (-1), 1) := by decide +kernel
theorem dX12_would_24 : decode cX12_would 24 = .ok (.ixor, 1) := by decide +kernel
theorem dX12_would_25 : decode cX12_would 25 = .ok (.iand, 1) := by decide +kernel
theorem dX12_would_26 : decode cX12_would 26 = .ok (.invokevirtual 185, 3) := by decide +kernel
theorem dX12_would_29 : decode cX12_would 29 = .ok (.goto 8, 3) := by decide +kernel
theorem dX12_would_32 : decode cX12_would 32 = .ok (.aload_n 0, 1) := by decide +kernel
theorem dX12_would_33 : decode cX12_would 33 = .ok (.iconst 1, 1) := by decide +kernel
theorem dX12_would_34 : decode cX12_would 34 = .ok (.invokevirtual 50, 3) := by decide +kernel
theorem dX12_would_37 : decode cX12_would 37 = .ok (.ireturn, 1) := by decide +kernel
theorem dX12_withoutNow_0 : decode cX12_withoutNow 0 = .ok (.aload_n 0, 1) := by decide +kernel
theorem dX12_withoutNow_1 : decode cX12_withoutNow 1 = .ok (.getfield 16, 3) := by decide +kernel
theorem dX12_withoutNow_4 : decode cX12_withoutNow 4 = .ok (.iload_n 1, 1) := by decide +kernel
theorem dX12_withoutNow_5 : decode cX12_withoutNow 5 = .ok (.invokevirtual 97, 3) := by decide +kernel
theorem dX12_withoutNow_8 : decode cX12_withoutNow 8 = .ok (.checkcast 74, 3) := by decide +kernel
theorem dX12_withoutNow_11 : decode cX12_withoutNow 11 = .ok (.getfield 115, 3) := by decide +kernel
theorem dX12_withoutNow_14 : decode cX12_withoutNow 14 = .ok (.istore_n 2, 1) := by decide +kernel
theorem dX12_withoutNow_15 : decode cX12_withoutNow 15 = .ok (.aload_n 0, 1) := by decide +kernel
theorem dX12_withoutNow_16 : decode cX12_withoutNow 16 = .ok (.getfield 16, 3) := by decide +kernel
theorem dX12_withoutNow_19 : decode cX12_withoutNow 19 = .ok (.iload_n 1, 1) := by decide +kernel
theorem dX12_withoutNow_20 : decode cX12_withoutNow 20 = .ok (.invokevirtual 97, 3) := by decide +kernel
theorem dX12_withoutNow_23 : decode cX12_withoutNow 23 = .ok (.checkcast 74, 3) := by decide +kernel
theorem dX12_withoutNow_26 : decode cX12_withoutNow 26 = .ok (.iconst 1, 1) := by decide +kernel
theorem dX12_withoutNow_27 : decode cX12_withoutNow 27 = .ok (.putfield 115, 3) := by decide +kernel
theorem dX12_withoutNow_30 : decode cX12_withoutNow 30 = .ok (.aload_n 0, 1) := by decide +kernel
theorem dX12_withoutNow_31 : decode cX12_withoutNow 31 = .ok (.aload_n 0, 1) := by decide +kernel
theorem dX12_withoutNow_32 : decode cX12_withoutNow 32 = .ok (.invokevirtual 182, 3) := by decide +kernel
theorem dX12_withoutNow_35 : decode cX12_withoutNow 35 = .ok (.invokevirtual 185, 3) := by decide +kernel
theorem dX12_withoutNow_38 : decode cX12_withoutNow 38 = .ok (.istore_n 3, 1) := by decide +kernel
theorem dX12_withoutNow_39 : decode cX12_withoutNow 39 = .ok (.aload_n 0, 1) := by decide +kernel
theorem dX12_withoutNow_40 : decode cX12_withoutNow 40 = .ok (.getfield 16, 3) := by decide +kernel
theorem dX12_withoutNow_43 : decode cX12_withoutNow 43 = .ok (.iload_n 1, 1) := by decide +kernel
theorem dX12_withoutNow_44 : decode cX12_withoutNow 44 = .ok (.invokevirtual 97, 3) := by decide +kernel
theorem dX12_withoutNow_47 : decode cX12_withoutNow 47 = .ok (.checkcast 74, 3) := by decide +kernel
theorem dX12_withoutNow_50 : decode cX12_withoutNow 50 = .ok (.iload_n 2, 1) := by decide +kernel
theorem dX12_withoutNow_51 : decode cX12_withoutNow 51 = .ok (.putfield 115, 3) := by decide +kernel
theorem dX12_withoutNow_54 : decode cX12_withoutNow 54 = .ok (.iload_n 3, 1) := by decide +kernel
theorem dX12_withoutNow_55 : decode cX12_withoutNow 55 = .ok (.ireturn, 1) := by decide +kernel
theorem dX12_without_0 : decode cX12_without 0 = .ok (.aload_n 0, 1) := by decide +kernel
theorem dX12_without_1 : decode cX12_without 1 = .ok (.iconst 0, 1) := by decide +kernel
theorem dX12_without_2 : decode cX12_without 2 = .ok (.putfield 38, 3) := by decide +kernel
theorem dX12_without_5 : decode cX12_without 5 = .ok (.aload_n 0, 1) := by decide +kernel
theorem dX12_without_6 : decode cX12_without 6 = .ok (.iload_n 1, 1) := by decide +kernel
theorem dX12_without_7 : decode cX12_without 7 = .ok (.invokevirtual 118, 3) := by decide +kernel
theorem dX12_without_10 : decode cX12_without 10 = .ok (.ifCond .eq 11, 3) := by decide +kernel
theorem dX12_without_13 : decode cX12_without 13 = .ok (.aload_n 0, 1) := by decide +kernel
theorem dX12_without_14 : decode cX12_without 14 = .ok (.iload_n 1, 1) := by decide +kernel
theorem dX12_without_15 : decode cX12_without 15 = .ok (.invokevirtual 319, 3) := by decide +kernel
theorem dX12_without_18 : decode cX12_without 18 = .ok (.goto 8, 3) := by decide +kernel
theorem dX12_without_21 : decode cX12_without 21 = .ok (.aload_n 0, 1) := by decide +kernel
theorem dX12_without_22 : decode cX12_without 22 = .ok (.iconst 1, 1) := by decide +kernel
theorem dX12_without_23 : decode cX12_without 23 = .ok (.invokevirtual 50, 3) := by decide +kernel
theorem dX12_without_26 : decode cX12_without 26 = .ok (.ireturn, 1) := by decide +kernel
theorem dX12_shareOf_0 : decode cX12_shareOf 0 = .ok (.aload_n 0, 1) := by decide +kernel
theorem dX12_shareOf_1 : decode cX12_shareOf 1 = .ok (.iconst 0, 1) := by decide +kernel
theorem dX12_shareOf_2 : decode cX12_shareOf 2 = .ok (.putfield 38, 3) := by decide +kernel
theorem dX12_shareOf_5 : decode cX12_shareOf 5 = .ok (.aload_n 0, 1) := by decide +kernel
theorem dX12_shareOf_6 : decode cX12_shareOf 6 = .ok (.iload_n 2, 1) := by decide +kernel
theorem dX12_shareOf_7 : decode cX12_shareOf 7 = .ok (.invokevirtual 118, 3) := by decide +kernel
theorem dX12_shareOf_10 : decode cX12_shareOf 10 = .ok (.ifCond .ne 9, 3) := by decide +kernel
theorem dX12_shareOf_13 : decode cX12_shareOf 13 = .ok (.aload_n 0, 1) := by decide +kernel
theorem dX12_shareOf_14 : decode cX12_shareOf 14 = .ok (.iconst 1, 1) := by decide +kernel
theorem dX12_shareOf_15 : decode cX12_shareOf 15 = .ok (.invokevirtual 50, 3) := by decide +kernel
theorem dX12_shareOf_18 : decode cX12_shareOf 18 = .ok (.ireturn, 1) := by decide +kernel
theorem dX12_shareOf_19 : decode cX12_shareOf 19 = .ok (.iload_n 1, 1) := by decide +kernel
theorem dX12_shareOf_20 : decode cX12_shareOf 20 = .ok (.iconst 0, 1) := by decide +kernel
theorem dX12_shareOf_21 : decode cX12_shareOf 21 = .ok (.sipush 9999, 3) := by decide +kernel
theorem dX12_shareOf_24 : decode cX12_shareOf 24 = .ok (.invokestatic 46, 3) := by decide +kernel
theorem dX12_shareOf_27 : decode cX12_shareOf 27 = .ok (.ifCond .eq 12, 3) := by decide +kernel
theorem dX12_shareOf_30 : decode cX12_shareOf 30 = .ok (.aload_n 0, 1) := by decide +kernel
theorem dX12_shareOf_31 : decode cX12_shareOf 31 = .ok (.iload_n 1, 1) := by decide +kernel
theorem dX12_shareOf_32 : decode cX12_shareOf 32 = .ok (.iload_n 2, 1) := by decide +kernel
theorem dX12_shareOf_33 : decode cX12_shareOf 33 = .ok (.invokevirtual 231, 3) := by decide +kernel
theorem dX12_shareOf_36 : decode cX12_shareOf 36 = .ok (.goto 8, 3) := by decide +kernel
theorem dX12_shareOf_39 : decode cX12_shareOf 39 = .ok (.aload_n 0, 1) := by decide +kernel
theorem dX12_shareOf_40 : decode cX12_shareOf 40 = .ok (.iconst 2, 1) := by decide +kernel
theorem dX12_shareOf_41 : decode cX12_shareOf 41 = .ok (.invokevirtual 50, 3) := by decide +kernel
theorem dX12_shareOf_44 : decode cX12_shareOf 44 = .ok (.ireturn, 1) := by decide +kernel
theorem dX12_isSoundNow_0 : decode cX12_isSoundNow 0 = .ok (.aload_n 0, 1) := by decide +kernel
theorem dX12_isSoundNow_1 : decode cX12_isSoundNow 1 = .ok (.getfield 19, 3) := by decide +kernel
theorem dX12_isSoundNow_4 : decode cX12_isSoundNow 4 = .ok (.invokevirtual 101, 3) := by decide +kernel
theorem dX12_isSoundNow_7 : decode cX12_isSoundNow 7 = .ok (.astore_n 1, 1) := by decide +kernel
theorem dX12_isSoundNow_8 : decode cX12_isSoundNow 8 = .ok (.aload_n 1, 1) := by decide +kernel
theorem dX12_isSoundNow_9 : decode cX12_isSoundNow 9 = .ok (.invokeinterface 105 1, 5) := by decide +kernel
theorem dX12_isSoundNow_14 : decode cX12_isSoundNow 14 = .ok (.ifCond .eq 49, 3) := by decide +kernel
theorem dX12_isSoundNow_17 : decode cX12_isSoundNow 17 = .ok (.aload_n 1, 1) := by decide +kernel
theorem dX12_isSoundNow_18 : decode cX12_isSoundNow 18 = .ok (.invokeinterface 111 1, 5) := by decide +kernel
theorem dX12_isSoundNow_23 : decode cX12_isSoundNow 23 = .ok (.checkcast 85, 3) := by decide +kernel
theorem dX12_isSoundNow_26 : decode cX12_isSoundNow 26 = .ok (.astore_n 2, 1) := by decide +kernel
theorem dX12_isSoundNow_27 : decode cX12_isSoundNow 27 = .ok (.aload_n 0, 1) := by decide +kernel
theorem dX12_isSoundNow_28 : decode cX12_isSoundNow 28 = .ok (.aload_n 2, 1) := by decide +kernel
theorem dX12_isSoundNow_29 : decode cX12_isSoundNow 29 = .ok (.getfield 88, 3) := by decide +kernel
theorem dX12_isSoundNow_32 : decode cX12_isSoundNow 32 = .ok (.invokevirtual 270, 3) := by decide +kernel
theorem dX12_isSoundNow_35 : decode cX12_isSoundNow 35 = .ok (.aload_n 0, 1) := by decide +kernel
theorem dX12_isSoundNow_36 : decode cX12_isSoundNow 36 = .ok (.aload_n 0, 1) := by decide +kernel
theorem dX12_isSoundNow_37 : decode cX12_isSoundNow 37 = .ok (.aload_n 2, 1) := by decide +kernel
theorem dX12_isSoundNow_38 : decode cX12_isSoundNow 38 = .ok (.getfield 88, 3) := by decide +kernel
theorem dX12_isSoundNow_41 : decode cX12_isSoundNow 41 = .ok (.invokevirtual 273, 3) := by decide +kernel
theorem dX12_isSoundNow_44 : decode cX12_isSoundNow 44 = .ok (.invokevirtual 197, 3) := by decide +kernel
theorem dX12_isSoundNow_47 : decode cX12_isSoundNow 47 = .ok (.iadd, 1) := by decide +kernel
theorem dX12_isSoundNow_48 : decode cX12_isSoundNow 48 = .ok (.aload_n 2, 1) := by decide +kernel
theorem dX12_isSoundNow_49 : decode cX12_isSoundNow 49 = .ok (.getfield 88, 3) := by decide +kernel
theorem dX12_isSoundNow_52 : decode cX12_isSoundNow 52 = .ok (.invokestatic 170, 3) := by decide +kernel
theorem dX12_isSoundNow_55 : decode cX12_isSoundNow 55 = .ok (.if_icmp .eq 5, 3) := by decide +kernel
theorem dX12_isSoundNow_58 : decode cX12_isSoundNow 58 = .ok (.iconst 0, 1) := by decide +kernel
theorem dX12_isSoundNow_59 : decode cX12_isSoundNow 59 = .ok (.ireturn, 1) := by decide +kernel
theorem dX12_isSoundNow_60 : decode cX12_isSoundNow 60 = .ok (.goto (-52), 3) := by decide +kernel
theorem dX12_isSoundNow_63 : decode cX12_isSoundNow 63 = .ok (.aload_n 0, 1) := by decide +kernel
theorem dX12_isSoundNow_64 : decode cX12_isSoundNow 64 = .ok (.getfield 16, 3) := by decide +kernel
theorem dX12_isSoundNow_67 : decode cX12_isSoundNow 67 = .ok (.invokevirtual 101, 3) := by decide +kernel
theorem dX12_isSoundNow_70 : decode cX12_isSoundNow 70 = .ok (.astore_n 1, 1) := by decide +kernel
theorem dX12_isSoundNow_71 : decode cX12_isSoundNow 71 = .ok (.aload_n 1, 1) := by decide +kernel
theorem dX12_isSoundNow_72 : decode cX12_isSoundNow 72 = .ok (.invokeinterface 105 1, 5) := by decide +kernel
theorem dX12_isSoundNow_77 : decode cX12_isSoundNow 77 = .ok (.ifCond .eq 25, 3) := by decide +kernel
theorem dX12_isSoundNow_80 : decode cX12_isSoundNow 80 = .ok (.aload_n 1, 1) := by decide +kernel
theorem dX12_isSoundNow_81 : decode cX12_isSoundNow 81 = .ok (.invokeinterface 111 1, 5) := by decide +kernel
theorem dX12_isSoundNow_86 : decode cX12_isSoundNow 86 = .ok (.checkcast 74, 3) := by decide +kernel
theorem dX12_isSoundNow_89 : decode cX12_isSoundNow 89 = .ok (.astore_n 2, 1) := by decide +kernel
theorem dX12_isSoundNow_90 : decode cX12_isSoundNow 90 = .ok (.aload_n 2, 1) := by decide +kernel
theorem dX12_isSoundNow_91 : decode cX12_isSoundNow 91 = .ok (.getfield 141, 3) := by decide +kernel
theorem dX12_isSoundNow_94 : decode cX12_isSoundNow 94 = .ok (.ifCond .ge 5, 3) := by decide +kernel
theorem dX12_isSoundNow_97 : decode cX12_isSoundNow 97 = .ok (.iconst 0, 1) := by decide +kernel
theorem dX12_isSoundNow_98 : decode cX12_isSoundNow 98 = .ok (.ireturn, 1) := by decide +kernel
theorem dX12_isSoundNow_99 : decode cX12_isSoundNow 99 = .ok (.goto (-28), 3) := by decide +kernel
theorem dX12_isSoundNow_102 : decode cX12_isSoundNow 102 = .ok (.aload_n 0, 1) := by decide +kernel
theorem dX12_isSoundNow_103 : decode cX12_isSoundNow 103 = .ok (.invokevirtual 294, 3) := by decide +kernel
theorem dX12_isSoundNow_106 : decode cX12_isSoundNow 106 = .ok (.aload_n 0, 1) := by decide +kernel
theorem dX12_isSoundNow_107 : decode cX12_isSoundNow 107 = .ok (.getfield 138, 3) := by decide +kernel
theorem dX12_isSoundNow_110 : decode cX12_isSoundNow 110 = .ok (.aload_n 0, 1) := by decide +kernel
theorem dX12_isSoundNow_111 : decode cX12_isSoundNow 111 = .ok (.getfield 144, 3) := by decide +kernel
theorem dX12_isSoundNow_114 : decode cX12_isSoundNow 114 = .ok (.isub, 1) := by decide +kernel
theorem dX12_isSoundNow_115 : decode cX12_isSoundNow 115 = .ok (.if_icmp .eq 5, 3) := by decide +kernel
theorem dX12_isSoundNow_118 : decode cX12_isSoundNow 118 = .ok (.iconst 0, 1) := by decide +kernel
theorem dX12_isSoundNow_119 : decode cX12_isSoundNow 119 = .ok (.ireturn, 1) := by decide +kernel
theorem dX12_isSoundNow_120 : decode cX12_isSoundNow 120 = .ok (.aload_n 0, 1) := by decide +kernel
theorem dX12_isSoundNow_121 : decode cX12_isSoundNow 121 = .ok (.invokevirtual 291, 3) := by decide +kernel
theorem dX12_isSoundNow_124 : decode cX12_isSoundNow 124 = .ok (.ifCond .eq 7, 3) := by decide +kernel
theorem dX12_isSoundNow_127 : decode cX12_isSoundNow 127 = .ok (.iconst 1, 1) := by decide +kernel
theorem dX12_isSoundNow_128 : decode cX12_isSoundNow 128 = .ok (.goto 4, 3) := by decide +kernel
theorem dX12_isSoundNow_131 : decode cX12_isSoundNow 131 = .ok (.iconst 0, 1) := by decide +kernel
theorem dX12_isSoundNow_132 : decode cX12_isSoundNow 132 = .ok (.istore_n 1, 1) := by decide +kernel
theorem dX12_isSoundNow_133 : decode cX12_isSoundNow 133 = .ok (.aload_n 0, 1) := by decide +kernel
theorem dX12_isSoundNow_134 : decode cX12_isSoundNow 134 = .ok (.invokevirtual 219, 3) := by decide +kernel
theorem dX12_isSoundNow_137 : decode cX12_isSoundNow 137 = .ok (.ifCond .ne 5, 3) := by decide +kernel
theorem dX12_isSoundNow_140 : decode cX12_isSoundNow 140 = .ok (.iload_n 1, 1) := by decide +kernel
theorem dX12_isSoundNow_141 : decode cX12_isSoundNow 141 = .ok (.ireturn, 1) := by decide +kernel
theorem dX12_isSoundNow_142 : decode cX12_isSoundNow 142 = .ok (.aload_n 0, 1) := by decide +kernel
theorem dX12_isSoundNow_143 : decode cX12_isSoundNow 143 = .ok (.aload_n 0, 1) := by decide +kernel
theorem dX12_isSoundNow_144 : decode cX12_isSoundNow 144 = .ok (.invokevirtual 182, 3) := by decide +kernel
theorem dX12_isSoundNow_147 : decode cX12_isSoundNow 147 = .ok (.invokevirtual 175, 3) := by decide +kernel
theorem dX12_isSoundNow_150 : decode cX12_isSoundNow 150 = .ok (.iconst 0, 1) := by decide +kernel
theorem dX12_isSoundNow_151 : decode cX12_isSoundNow 151 = .ok (.istore_n 2, 1) := by decide +kernel
theorem dX12_isSoundNow_152 : decode cX12_isSoundNow 152 = .ok (.iload_n 2, 1) := by decide +kernel
theorem dX12_isSoundNow_153 : decode cX12_isSoundNow 153 = .ok (.aload_n 0, 1) := by decide +kernel
theorem dX12_isSoundNow_154 : decode cX12_isSoundNow 154 = .ok (.getfield 10, 3) := by decide +kernel
theorem dX12_isSoundNow_157 : decode cX12_isSoundNow 157 = .ok (.invokevirtual 42, 3) := by decide +kernel
theorem dX12_isSoundNow_160 : decode cX12_isSoundNow 160 = .ok (.if_icmp .ge 62, 3) := by decide +kernel
theorem dX12_isSoundNow_163 : decode cX12_isSoundNow 163 = .ok (.iconst 0, 1) := by decide +kernel
theorem dX12_isSoundNow_164 : decode cX12_isSoundNow 164 = .ok (.istore_n 3, 1) := by decide +kernel
theorem dX12_isSoundNow_165 : decode cX12_isSoundNow 165 = .ok (.iload_n 3, 1) := by decide +kernel
theorem dX12_isSoundNow_166 : decode cX12_isSoundNow 166 = .ok (.iload_n 2, 1) := by decide +kernel
theorem dX12_isSoundNow_167 : decode cX12_isSoundNow 167 = .ok (.if_icmp .ge 49, 3) := by decide +kernel
theorem dX12_isSoundNow_170 : decode cX12_isSoundNow 170 = .ok (.aload_n 0, 1) := by decide +kernel
theorem dX12_isSoundNow_171 : decode cX12_isSoundNow 171 = .ok (.getfield 28, 3) := by decide +kernel
theorem dX12_isSoundNow_174 : decode cX12_isSoundNow 174 = .ok (.iload_n 2, 1) := by decide +kernel
theorem dX12_isSoundNow_175 : decode cX12_isSoundNow 175 = .ok (.iaload, 1) := by decide +kernel
theorem dX12_isSoundNow_176 : decode cX12_isSoundNow 176 = .ok (.iconst (-1), 1) := by decide +kernel
theorem dX12_isSoundNow_177 : decode cX12_isSoundNow 177 = .ok (.if_icmp .eq 33, 3) := by decide +kernel
theorem dX12_isSoundNow_180 : decode cX12_isSoundNow 180 = .ok (.aload_n 0, 1) := by decide +kernel
theorem dX12_isSoundNow_181 : decode cX12_isSoundNow 181 = .ok (.getfield 28, 3) := by decide +kernel
theorem dX12_isSoundNow_184 : decode cX12_isSoundNow 184 = .ok (.iload_n 2, 1) := by decide +kernel
theorem dX12_isSoundNow_185 : decode cX12_isSoundNow 185 = .ok (.iaload, 1) := by decide +kernel
theorem dX12_isSoundNow_186 : decode cX12_isSoundNow 186 = .ok (.aload_n 0, 1) := by decide +kernel
theorem dX12_isSoundNow_187 : decode cX12_isSoundNow 187 = .ok (.getfield 28, 3) := by decide +kernel
theorem dX12_isSoundNow_190 : decode cX12_isSoundNow 190 = .ok (.iload_n 3, 1) := by decide +kernel
theorem dX12_isSoundNow_191 : decode cX12_isSoundNow 191 = .ok (.iaload, 1) := by decide +kernel
theorem dX12_isSoundNow_192 : decode cX12_isSoundNow 192 = .ok (.if_icmp .ne 18, 3) := by decide +kernel
theorem dX12_isSoundNow_195 : decode cX12_isSoundNow 195 = .ok (.aload_n 0, 1) := by decide +kernel
theorem dX12_isSoundNow_196 : decode cX12_isSoundNow 196 = .ok (.getfield 35, 3) := by decide +kernel
theorem dX12_isSoundNow_199 : decode cX12_isSoundNow 199 = .ok (.iload_n 2, 1) := by decide +kernel
theorem dX12_isSoundNow_200 : decode cX12_isSoundNow 200 = .ok (.iaload, 1) := by decide +kernel
theorem dX12_isSoundNow_201 : decode cX12_isSoundNow 201 = .ok (.iload_n 3, 1) := by decide +kernel
theorem dX12_isSoundNow_202 : decode cX12_isSoundNow 202 = .ok (.invokestatic 159, 3) := by decide +kernel
theorem dX12_isSoundNow_205 : decode cX12_isSoundNow 205 = .ok (.ifCond .eq 5, 3) := by decide +kernel
theorem dX12_isSoundNow_208 : decode cX12_isSoundNow 208 = .ok (.iconst 0, 1) := by decide +kernel
theorem dX12_isSoundNow_209 : decode cX12_isSoundNow 209 = .ok (.ireturn, 1) := by decide +kernel
theorem dX12_isSoundNow_210 : decode cX12_isSoundNow 210 = .ok (.iinc 3 1, 3) := by decide +kernel
theorem dX12_isSoundNow_213 : decode cX12_isSoundNow 213 = .ok (.goto (-48), 3) := by decide +kernel
theorem dX12_isSoundNow_216 : decode cX12_isSoundNow 216 = .ok (.iinc 2 1, 3) := by decide +kernel
theorem dX12_isSoundNow_219 : decode cX12_isSoundNow 219 = .ok (.goto (-67), 3) := by decide +kernel
theorem dX12_isSoundNow_222 : decode cX12_isSoundNow 222 = .ok (.iload_n 1, 1) := by decide +kernel
theorem dX12_isSoundNow_223 : decode cX12_isSoundNow 223 = .ok (.ifCond .ne 7, 3) := by decide +kernel
theorem dX12_isSoundNow_226 : decode cX12_isSoundNow 226 = .ok (.iconst 1, 1) := by decide +kernel
theorem dX12_isSoundNow_227 : decode cX12_isSoundNow 227 = .ok (.goto 4, 3) := by decide +kernel
theorem dX12_isSoundNow_230 : decode cX12_isSoundNow 230 = .ok (.iconst 0, 1) := by decide +kernel
theorem dX12_isSoundNow_231 : decode cX12_isSoundNow 231 = .ok (.ireturn, 1) := by decide +kernel
theorem dX12_isSound_0 : decode cX12_isSound 0 = .ok (.aload_n 0, 1) := by decide +kernel
theorem dX12_isSound_1 : decode cX12_isSound 1 = .ok (.iconst 0, 1) := by decide +kernel
theorem dX12_isSound_2 : decode cX12_isSound 2 = .ok (.putfield 38, 3) := by decide +kernel
theorem dX12_isSound_5 : decode cX12_isSound 5 = .ok (.aload_n 0, 1) := by decide +kernel
theorem dX12_isSound_6 : decode cX12_isSound 6 = .ok (.invokevirtual 322, 3) := by decide +kernel
theorem dX12_isSound_9 : decode cX12_isSound 9 = .ok (.ireturn, 1) := by decide +kernel
theorem dX12_add_0 : decode cX12_add 0 = .ok (.aload_n 0, 1) := by decide +kernel
theorem dX12_add_1 : decode cX12_add 1 = .ok (.aload_n 0, 1) := by decide +kernel
theorem dX12_add_2 : decode cX12_add 2 = .ok (.getfield 325, 3) := by decide +kernel
theorem dX12_add_5 : decode cX12_add 5 = .ok (.ldc2_w 329, 3) := by decide +kernel
theorem dX12_add_8 : decode cX12_add 8 = .ok (.lmul, 1) := by decide +kernel
theorem dX12_add_9 : decode cX12_add 9 = .ok (.lload_n 1, 1) := by decide +kernel
theorem dX12_add_10 : decode cX12_add 10 = .ok (.ladd, 1) := by decide +kernel
theorem dX12_add_11 : decode cX12_add 11 = .ok (.putfield 325, 3) := by decide +kernel
theorem dX12_add_14 : decode cX12_add 14 = .ok (.return_, 1) := by decide +kernel
theorem dX12_digest_0 : decode cX12_digest 0 = .ok (.aload_n 0, 1) := by decide +kernel
theorem dX12_digest_1 : decode cX12_digest 1 = .ok (.iconst 0, 1) := by decide +kernel
theorem dX12_digest_2 : decode cX12_digest 2 = .ok (.putfield 38, 3) := by decide +kernel
theorem dX12_digest_5 : decode cX12_digest 5 = .ok (.aload_n 0, 1) := by decide +kernel
theorem dX12_digest_6 : decode cX12_digest 6 = .ok (.ldc2_w 331, 3) := by decide +kernel
theorem dX12_digest_9 : decode cX12_digest 9 = .ok (.putfield 325, 3) := by decide +kernel
theorem dX12_digest_12 : decode cX12_digest 12 = .ok (.iconst 0, 1) := by decide +kernel
theorem dX12_digest_13 : decode cX12_digest 13 = .ok (.istore_n 1, 1) := by decide +kernel
theorem dX12_digest_14 : decode cX12_digest 14 = .ok (.iload_n 1, 1) := by decide +kernel
theorem dX12_digest_15 : decode cX12_digest 15 = .ok (.bipush 14, 2) := by decide +kernel
theorem dX12_digest_17 : decode cX12_digest 17 = .ok (.if_icmp .ge 19, 3) := by decide +kernel
theorem dX12_digest_20 : decode cX12_digest 20 = .ok (.aload_n 0, 1) := by decide +kernel
theorem dX12_digest_21 : decode cX12_digest 21 = .ok (.aload_n 0, 1) := by decide +kernel
theorem dX12_digest_22 : decode cX12_digest 22 = .ok (.iload_n 1, 1) := by decide +kernel
theorem dX12_digest_23 : decode cX12_digest 23 = .ok (.invokevirtual 297, 3) := by decide +kernel
theorem dX12_digest_26 : decode cX12_digest 26 = .ok (.i2l, 1) := by decide +kernel
theorem dX12_digest_27 : decode cX12_digest 27 = .ok (.invokevirtual 333, 3) := by decide +kernel
theorem dX12_digest_30 : decode cX12_digest 30 = .ok (.iinc 1 1, 3) := by decide +kernel
theorem dX12_digest_33 : decode cX12_digest 33 = .ok (.goto (-19), 3) := by decide +kernel
theorem dX12_digest_36 : decode cX12_digest 36 = .ok (.iconst 0, 1) := by decide +kernel
theorem dX12_digest_37 : decode cX12_digest 37 = .ok (.istore_n 1, 1) := by decide +kernel
theorem dX12_digest_38 : decode cX12_digest 38 = .ok (.iload_n 1, 1) := by decide +kernel
theorem dX12_digest_39 : decode cX12_digest 39 = .ok (.aload_n 0, 1) := by decide +kernel
theorem dX12_digest_40 : decode cX12_digest 40 = .ok (.getfield 10, 3) := by decide +kernel
theorem dX12_digest_43 : decode cX12_digest 43 = .ok (.invokevirtual 42, 3) := by decide +kernel
theorem dX12_digest_46 : decode cX12_digest 46 = .ok (.if_icmp .ge 34, 3) := by decide +kernel
theorem dX12_digest_49 : decode cX12_digest 49 = .ok (.iconst 0, 1) := by decide +kernel
theorem dX12_digest_50 : decode cX12_digest 50 = .ok (.istore_n 2, 1) := by decide +kernel
theorem dX12_digest_51 : decode cX12_digest 51 = .ok (.iload_n 2, 1) := by decide +kernel
theorem dX12_digest_52 : decode cX12_digest 52 = .ok (.bipush 7, 2) := by decide +kernel
theorem dX12_digest_54 : decode cX12_digest 54 = .ok (.if_icmp .ge 20, 3) := by decide +kernel
theorem dX12_digest_57 : decode cX12_digest 57 = .ok (.aload_n 0, 1) := by decide +kernel
theorem dX12_digest_58 : decode cX12_digest 58 = .ok (.aload_n 0, 1) := by decide +kernel
theorem dX12_digest_59 : decode cX12_digest 59 = .ok (.iload_n 1, 1) := by decide +kernel
theorem dX12_digest_60 : decode cX12_digest 60 = .ok (.iload_n 2, 1) := by decide +kernel
theorem dX12_digest_61 : decode cX12_digest 61 = .ok (.invokevirtual 264, 3) := by decide +kernel
theorem dX12_digest_64 : decode cX12_digest 64 = .ok (.i2l, 1) := by decide +kernel
theorem dX12_digest_65 : decode cX12_digest 65 = .ok (.invokevirtual 333, 3) := by decide +kernel
theorem dX12_digest_68 : decode cX12_digest 68 = .ok (.iinc 2 1, 3) := by decide +kernel
theorem dX12_digest_71 : decode cX12_digest 71 = .ok (.goto (-20), 3) := by decide +kernel
theorem dX12_digest_74 : decode cX12_digest 74 = .ok (.iinc 1 1, 3) := by decide +kernel
theorem dX12_digest_77 : decode cX12_digest 77 = .ok (.goto (-39), 3) := by decide +kernel
theorem dX12_digest_80 : decode cX12_digest 80 = .ok (.iconst 0, 1) := by decide +kernel
theorem dX12_digest_81 : decode cX12_digest 81 = .ok (.istore_n 1, 1) := by decide +kernel
theorem dX12_digest_82 : decode cX12_digest 82 = .ok (.iload_n 1, 1) := by decide +kernel
theorem dX12_digest_83 : decode cX12_digest 83 = .ok (.aload_n 0, 1) := by decide +kernel
theorem dX12_digest_84 : decode cX12_digest 84 = .ok (.getfield 16, 3) := by decide +kernel
theorem dX12_digest_87 : decode cX12_digest 87 = .ok (.invokevirtual 42, 3) := by decide +kernel
theorem dX12_digest_90 : decode cX12_digest 90 = .ok (.if_icmp .ge 56, 3) := by decide +kernel
theorem dX12_digest_93 : decode cX12_digest 93 = .ok (.iconst 0, 1) := by decide +kernel
theorem dX12_digest_94 : decode cX12_digest 94 = .ok (.istore_n 2, 1) := by decide +kernel
theorem dX12_digest_95 : decode cX12_digest 95 = .ok (.iload_n 2, 1) := by decide +kernel
theorem dX12_digest_96 : decode cX12_digest 96 = .ok (.bipush 6, 2) := by decide +kernel
theorem dX12_digest_98 : decode cX12_digest 98 = .ok (.if_icmp .ge 20, 3) := by decide +kernel
theorem dX12_digest_101 : decode cX12_digest 101 = .ok (.aload_n 0, 1) := by decide +kernel
theorem dX12_digest_102 : decode cX12_digest 102 = .ok (.aload_n 0, 1) := by decide +kernel
theorem dX12_digest_103 : decode cX12_digest 103 = .ok (.iload_n 1, 1) := by decide +kernel
theorem dX12_digest_104 : decode cX12_digest 104 = .ok (.iload_n 2, 1) := by decide +kernel
theorem dX12_digest_105 : decode cX12_digest 105 = .ok (.invokevirtual 267, 3) := by decide +kernel
theorem dX12_digest_108 : decode cX12_digest 108 = .ok (.i2l, 1) := by decide +kernel
theorem dX12_digest_109 : decode cX12_digest 109 = .ok (.invokevirtual 333, 3) := by decide +kernel
theorem dX12_digest_112 : decode cX12_digest 112 = .ok (.iinc 2 1, 3) := by decide +kernel
theorem dX12_digest_115 : decode cX12_digest 115 = .ok (.goto (-20), 3) := by decide +kernel
theorem dX12_digest_118 : decode cX12_digest 118 = .ok (.aload_n 0, 1) := by decide +kernel
theorem dX12_digest_119 : decode cX12_digest 119 = .ok (.aload_n 0, 1) := by decide +kernel
theorem dX12_digest_120 : decode cX12_digest 120 = .ok (.iload_n 1, 1) := by decide +kernel
theorem dX12_digest_121 : decode cX12_digest 121 = .ok (.invokevirtual 319, 3) := by decide +kernel
theorem dX12_digest_124 : decode cX12_digest 124 = .ok (.i2l, 1) := by decide +kernel
theorem dX12_digest_125 : decode cX12_digest 125 = .ok (.invokevirtual 333, 3) := by decide +kernel
theorem dX12_digest_128 : decode cX12_digest 128 = .ok (.aload_n 0, 1) := by decide +kernel
theorem dX12_digest_129 : decode cX12_digest 129 = .ok (.aload_n 0, 1) := by decide +kernel
theorem dX12_digest_130 : decode cX12_digest 130 = .ok (.bipush 100, 2) := by decide +kernel
theorem dX12_digest_132 : decode cX12_digest 132 = .ok (.iload_n 1, 1) := by decide +kernel
theorem dX12_digest_133 : decode cX12_digest 133 = .ok (.invokevirtual 231, 3) := by decide +kernel
theorem dX12_digest_136 : decode cX12_digest 136 = .ok (.i2l, 1) := by decide +kernel
theorem dX12_digest_137 : decode cX12_digest 137 = .ok (.invokevirtual 333, 3) := by decide +kernel
theorem dX12_digest_140 : decode cX12_digest 140 = .ok (.iinc 1 1, 3) := by decide +kernel
theorem dX12_digest_143 : decode cX12_digest 143 = .ok (.goto (-61), 3) := by decide +kernel
theorem dX12_digest_146 : decode cX12_digest 146 = .ok (.iconst 0, 1) := by decide +kernel
theorem dX12_digest_147 : decode cX12_digest 147 = .ok (.istore_n 1, 1) := by decide +kernel
theorem dX12_digest_148 : decode cX12_digest 148 = .ok (.iload_n 1, 1) := by decide +kernel
theorem dX12_digest_149 : decode cX12_digest 149 = .ok (.aload_n 0, 1) := by decide +kernel
theorem dX12_digest_150 : decode cX12_digest 150 = .ok (.getfield 19, 3) := by decide +kernel
theorem dX12_digest_153 : decode cX12_digest 153 = .ok (.invokevirtual 42, 3) := by decide +kernel
theorem dX12_digest_156 : decode cX12_digest 156 = .ok (.if_icmp .ge 34, 3) := by decide +kernel
theorem dX12_digest_159 : decode cX12_digest 159 = .ok (.iconst 0, 1) := by decide +kernel
theorem dX12_digest_160 : decode cX12_digest 160 = .ok (.istore_n 2, 1) := by decide +kernel
theorem dX12_digest_161 : decode cX12_digest 161 = .ok (.iload_n 2, 1) := by decide +kernel
theorem dX12_digest_162 : decode cX12_digest 162 = .ok (.bipush 6, 2) := by decide +kernel
theorem dX12_digest_164 : decode cX12_digest 164 = .ok (.if_icmp .ge 20, 3) := by decide +kernel
theorem dX12_digest_167 : decode cX12_digest 167 = .ok (.aload_n 0, 1) := by decide +kernel
theorem dX12_digest_168 : decode cX12_digest 168 = .ok (.aload_n 0, 1) := by decide +kernel
theorem dX12_digest_169 : decode cX12_digest 169 = .ok (.iload_n 1, 1) := by decide +kernel
theorem dX12_digest_170 : decode cX12_digest 170 = .ok (.iload_n 2, 1) := by decide +kernel
theorem dX12_digest_171 : decode cX12_digest 171 = .ok (.invokevirtual 279, 3) := by decide +kernel
theorem dX12_digest_174 : decode cX12_digest 174 = .ok (.i2l, 1) := by decide +kernel
theorem dX12_digest_175 : decode cX12_digest 175 = .ok (.invokevirtual 333, 3) := by decide +kernel
theorem dX12_digest_178 : decode cX12_digest 178 = .ok (.iinc 2 1, 3) := by decide +kernel
theorem dX12_digest_181 : decode cX12_digest 181 = .ok (.goto (-20), 3) := by decide +kernel
theorem dX12_digest_184 : decode cX12_digest 184 = .ok (.iinc 1 1, 3) := by decide +kernel
theorem dX12_digest_187 : decode cX12_digest 187 = .ok (.goto (-39), 3) := by decide +kernel
theorem dX12_digest_190 : decode cX12_digest 190 = .ok (.iconst 0, 1) := by decide +kernel
theorem dX12_digest_191 : decode cX12_digest 191 = .ok (.istore_n 1, 1) := by decide +kernel
theorem dX12_digest_192 : decode cX12_digest 192 = .ok (.iload_n 1, 1) := by decide +kernel
theorem dX12_digest_193 : decode cX12_digest 193 = .ok (.aload_n 0, 1) := by decide +kernel
theorem dX12_digest_194 : decode cX12_digest 194 = .ok (.getfield 22, 3) := by decide +kernel
theorem dX12_digest_197 : decode cX12_digest 197 = .ok (.invokevirtual 42, 3) := by decide +kernel
theorem dX12_digest_200 : decode cX12_digest 200 = .ok (.if_icmp .ge 20, 3) := by decide +kernel
theorem dX12_digest_203 : decode cX12_digest 203 = .ok (.aload_n 0, 1) := by decide +kernel
theorem dX12_digest_204 : decode cX12_digest 204 = .ok (.aload_n 0, 1) := by decide +kernel
theorem dX12_digest_205 : decode cX12_digest 205 = .ok (.iload_n 1, 1) := by decide +kernel
theorem dX12_digest_206 : decode cX12_digest 206 = .ok (.iconst 3, 1) := by decide +kernel
theorem dX12_digest_207 : decode cX12_digest 207 = .ok (.invokevirtual 282, 3) := by decide +kernel
theorem dX12_digest_210 : decode cX12_digest 210 = .ok (.i2l, 1) := by decide +kernel
theorem dX12_digest_211 : decode cX12_digest 211 = .ok (.invokevirtual 333, 3) := by decide +kernel
theorem dX12_digest_214 : decode cX12_digest 214 = .ok (.iinc 1 1, 3) := by decide +kernel
theorem dX12_digest_217 : decode cX12_digest 217 = .ok (.goto (-25), 3) := by decide +kernel
theorem dX12_digest_220 : decode cX12_digest 220 = .ok (.iconst 0, 1) := by decide +kernel
theorem dX12_digest_221 : decode cX12_digest 221 = .ok (.istore_n 1, 1) := by decide +kernel
theorem dX12_digest_222 : decode cX12_digest 222 = .ok (.iload_n 1, 1) := by decide +kernel
theorem dX12_digest_223 : decode cX12_digest 223 = .ok (.aload_n 0, 1) := by decide +kernel
theorem dX12_digest_224 : decode cX12_digest 224 = .ok (.getfield 25, 3) := by decide +kernel
theorem dX12_digest_227 : decode cX12_digest 227 = .ok (.invokevirtual 42, 3) := by decide +kernel
theorem dX12_digest_230 : decode cX12_digest 230 = .ok (.if_icmp .ge 31, 3) := by decide +kernel
theorem dX12_digest_233 : decode cX12_digest 233 = .ok (.aload_n 0, 1) := by decide +kernel
theorem dX12_digest_234 : decode cX12_digest 234 = .ok (.aload_n 0, 1) := by decide +kernel
theorem dX12_digest_235 : decode cX12_digest 235 = .ok (.iload_n 1, 1) := by decide +kernel
theorem dX12_digest_236 : decode cX12_digest 236 = .ok (.iconst 2, 1) := by decide +kernel
theorem dX12_digest_237 : decode cX12_digest 237 = .ok (.invokevirtual 285, 3) := by decide +kernel
theorem dX12_digest_240 : decode cX12_digest 240 = .ok (.i2l, 1) := by decide +kernel
theorem dX12_digest_241 : decode cX12_digest 241 = .ok (.invokevirtual 333, 3) := by decide +kernel
theorem dX12_digest_244 : decode cX12_digest 244 = .ok (.aload_n 0, 1) := by decide +kernel
theorem dX12_digest_245 : decode cX12_digest 245 = .ok (.aload_n 0, 1) := by decide +kernel
theorem dX12_digest_246 : decode cX12_digest 246 = .ok (.iload_n 1, 1) := by decide +kernel
theorem dX12_digest_247 : decode cX12_digest 247 = .ok (.iconst 3, 1) := by decide +kernel
theorem dX12_digest_248 : decode cX12_digest 248 = .ok (.invokevirtual 285, 3) := by decide +kernel
theorem dX12_digest_251 : decode cX12_digest 251 = .ok (.i2l, 1) := by decide +kernel
theorem dX12_digest_252 : decode cX12_digest 252 = .ok (.invokevirtual 333, 3) := by decide +kernel
theorem dX12_digest_255 : decode cX12_digest 255 = .ok (.iinc 1 1, 3) := by decide +kernel
theorem dX12_digest_258 : decode cX12_digest 258 = .ok (.goto (-36), 3) := by decide +kernel
theorem dX12_digest_261 : decode cX12_digest 261 = .ok (.iconst 0, 1) := by decide +kernel
theorem dX12_digest_262 : decode cX12_digest 262 = .ok (.istore_n 1, 1) := by decide +kernel
theorem dX12_digest_263 : decode cX12_digest 263 = .ok (.iload_n 1, 1) := by decide +kernel
theorem dX12_digest_264 : decode cX12_digest 264 = .ok (.iconst 3, 1) := by decide +kernel
theorem dX12_digest_265 : decode cX12_digest 265 = .ok (.if_icmp .ge 22, 3) := by decide +kernel
theorem dX12_digest_268 : decode cX12_digest 268 = .ok (.aload_n 0, 1) := by decide +kernel
theorem dX12_digest_269 : decode cX12_digest 269 = .ok (.aload_n 0, 1) := by decide +kernel
theorem dX12_digest_270 : decode cX12_digest 270 = .ok (.sipush 150, 3) := by decide +kernel
theorem dX12_digest_273 : decode cX12_digest 273 = .ok (.iload_n 1, 1) := by decide +kernel
theorem dX12_digest_274 : decode cX12_digest 274 = .ok (.invokevirtual 316, 3) := by decide +kernel
theorem dX12_digest_277 : decode cX12_digest 277 = .ok (.i2l, 1) := by decide +kernel
theorem dX12_digest_278 : decode cX12_digest 278 = .ok (.invokevirtual 333, 3) := by decide +kernel
theorem dX12_digest_281 : decode cX12_digest 281 = .ok (.iinc 1 1, 3) := by decide +kernel
theorem dX12_digest_284 : decode cX12_digest 284 = .ok (.goto (-21), 3) := by decide +kernel
theorem dX12_digest_287 : decode cX12_digest 287 = .ok (.aload_n 0, 1) := by decide +kernel
theorem dX12_digest_288 : decode cX12_digest 288 = .ok (.aload_n 0, 1) := by decide +kernel
theorem dX12_digest_289 : decode cX12_digest 289 = .ok (.invokevirtual 313, 3) := by decide +kernel
theorem dX12_digest_292 : decode cX12_digest 292 = .ok (.invokevirtual 336, 3) := by decide +kernel
theorem dX12_digest_295 : decode cX12_digest 295 = .ok (.i2l, 1) := by decide +kernel
theorem dX12_digest_296 : decode cX12_digest 296 = .ok (.invokevirtual 333, 3) := by decide +kernel
theorem dX12_digest_299 : decode cX12_digest 299 = .ok (.aload_n 0, 1) := by decide +kernel
theorem dX12_digest_300 : decode cX12_digest 300 = .ok (.aload_n 0, 1) := by decide +kernel
theorem dX12_digest_301 : decode cX12_digest 301 = .ok (.invokevirtual 322, 3) := by decide +kernel
theorem dX12_digest_304 : decode cX12_digest 304 = .ok (.ifCond .eq 7, 3) := by decide +kernel
theorem dX12_digest_307 : decode cX12_digest 307 = .ok (.lconst 1, 1) := by decide +kernel
theorem dX12_digest_308 : decode cX12_digest 308 = .ok (.goto 4, 3) := by decide +kernel
theorem dX12_digest_311 : decode cX12_digest 311 = .ok (.lconst 0, 1) := by decide +kernel
theorem dX12_digest_312 : decode cX12_digest 312 = .ok (.invokevirtual 333, 3) := by decide +kernel
theorem dX12_digest_315 : decode cX12_digest 315 = .ok (.aload_n 0, 1) := by decide +kernel
theorem dX12_digest_316 : decode cX12_digest 316 = .ok (.getfield 325, 3) := by decide +kernel
theorem dX12_digest_319 : decode cX12_digest 319 = .ok (.lreturn, 1) := by decide +kernel
