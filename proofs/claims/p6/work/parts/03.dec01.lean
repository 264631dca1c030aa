theorem dX2_init_0 : decode cX2_init 0 = .ok (.aload_n 0, 1) := by decide +kernel
theorem dX2_init_1 : decode cX2_init 1 = .ok (.invokespecial 3, 3) := by decide +kernel
theorem dX2_init_4 : decode cX2_init 4 = .ok (.aload_n 0, 1) := by decide +kernel
theorem dX2_init_5 : decode cX2_init 5 = .ok (.bipush 7, 2) := by decide +kernel
theorem dX2_init_7 : decode cX2_init 7 = .ok (.newarray .int, 2) := by decide +kernel
theorem dX2_init_9 : decode cX2_init 9 = .ok (.putfield 9, 3) := by decide +kernel
theorem dX2_init_12 : decode cX2_init 12 = .ok (.aload_n 0, 1) := by decide +kernel
theorem dX2_init_13 : decode cX2_init 13 = .ok (.bipush 7, 2) := by decide +kernel
theorem dX2_init_15 : decode cX2_init 15 = .ok (.newarray .int, 2) := by decide +kernel
theorem dX2_init_17 : decode cX2_init 17 = .ok (.putfield 15, 3) := by decide +kernel
theorem dX2_init_20 : decode cX2_init 20 = .ok (.aload_n 0, 1) := by decide +kernel
theorem dX2_init_21 : decode cX2_init 21 = .ok (.bipush 7, 2) := by decide +kernel
theorem dX2_init_23 : decode cX2_init 23 = .ok (.newarray .int, 2) := by decide +kernel
theorem dX2_init_25 : decode cX2_init 25 = .ok (.putfield 18, 3) := by decide +kernel
theorem dX2_init_28 : decode cX2_init 28 = .ok (.aload_n 0, 1) := by decide +kernel
theorem dX2_init_29 : decode cX2_init 29 = .ok (.bipush 6, 2) := by decide +kernel
theorem dX2_init_31 : decode cX2_init 31 = .ok (.newarray .int, 2) := by decide +kernel
theorem dX2_init_33 : decode cX2_init 33 = .ok (.putfield 21, 3) := by decide +kernel
theorem dX2_init_36 : decode cX2_init 36 = .ok (.aload_n 0, 1) := by decide +kernel
theorem dX2_init_37 : decode cX2_init 37 = .ok (.bipush 6, 2) := by decide +kernel
theorem dX2_init_39 : decode cX2_init 39 = .ok (.newarray .int, 2) := by decide +kernel
theorem dX2_init_41 : decode cX2_init 41 = .ok (.putfield 24, 3) := by decide +kernel
theorem dX2_init_44 : decode cX2_init 44 = .ok (.return_, 1) := by decide +kernel
theorem dX2_addPart_0 : decode cX2_addPart 0 = .ok (.aload_n 0, 1) := by decide +kernel
theorem dX2_addPart_1 : decode cX2_addPart 1 = .ok (.getfield 9, 3) := by decide +kernel
theorem dX2_addPart_4 : decode cX2_addPart 4 = .ok (.aload_n 0, 1) := by decide +kernel
theorem dX2_addPart_5 : decode cX2_addPart 5 = .ok (.getfield 27, 3) := by decide +kernel
theorem dX2_addPart_8 : decode cX2_addPart 8 = .ok (.iload_n 1, 1) := by decide +kernel
theorem dX2_addPart_9 : decode cX2_addPart 9 = .ok (.iastore, 1) := by decide +kernel
theorem dX2_addPart_10 : decode cX2_addPart 10 = .ok (.aload_n 0, 1) := by decide +kernel
theorem dX2_addPart_11 : decode cX2_addPart 11 = .ok (.getfield 15, 3) := by decide +kernel
theorem dX2_addPart_14 : decode cX2_addPart 14 = .ok (.aload_n 0, 1) := by decide +kernel
theorem dX2_addPart_15 : decode cX2_addPart 15 = .ok (.getfield 27, 3) := by decide +kernel
theorem dX2_addPart_18 : decode cX2_addPart 18 = .ok (.iload_n 2, 1) := by decide +kernel
theorem dX2_addPart_19 : decode cX2_addPart 19 = .ok (.iastore, 1) := by decide +kernel
theorem dX2_addPart_20 : decode cX2_addPart 20 = .ok (.aload_n 0, 1) := by decide +kernel
theorem dX2_addPart_21 : decode cX2_addPart 21 = .ok (.getfield 18, 3) := by decide +kernel
theorem dX2_addPart_24 : decode cX2_addPart 24 = .ok (.aload_n 0, 1) := by decide +kernel
theorem dX2_addPart_25 : decode cX2_addPart 25 = .ok (.getfield 27, 3) := by decide +kernel
theorem dX2_addPart_28 : decode cX2_addPart 28 = .ok (.iload_n 3, 1) := by decide +kernel
theorem dX2_addPart_29 : decode cX2_addPart 29 = .ok (.iastore, 1) := by decide +kernel
theorem dX2_addPart_30 : decode cX2_addPart 30 = .ok (.aload_n 0, 1) := by decide +kernel
theorem dX2_addPart_31 : decode cX2_addPart 31 = .ok (.dup, 1) := by decide +kernel
theorem dX2_addPart_32 : decode cX2_addPart 32 = .ok (.getfield 27, 3) := by decide +kernel
theorem dX2_addPart_35 : decode cX2_addPart 35 = .ok (.iconst 1, 1) := by decide +kernel
theorem dX2_addPart_36 : decode cX2_addPart 36 = .ok (.iadd, 1) := by decide +kernel
theorem dX2_addPart_37 : decode cX2_addPart 37 = .ok (.putfield 27, 3) := by decide +kernel
theorem dX2_addPart_40 : decode cX2_addPart 40 = .ok (.aload_n 0, 1) := by decide +kernel
theorem dX2_addPart_41 : decode cX2_addPart 41 = .ok (.getfield 27, 3) := by decide +kernel
theorem dX2_addPart_44 : decode cX2_addPart 44 = .ok (.iconst 1, 1) := by decide +kernel
theorem dX2_addPart_45 : decode cX2_addPart 45 = .ok (.isub, 1) := by decide +kernel
theorem dX2_addPart_46 : decode cX2_addPart 46 = .ok (.ireturn, 1) := by decide +kernel
theorem dX2_addScene_0 : decode cX2_addScene 0 = .ok (.aload_n 0, 1) := by decide +kernel
theorem dX2_addScene_1 : decode cX2_addScene 1 = .ok (.getfield 21, 3) := by decide +kernel
theorem dX2_addScene_4 : decode cX2_addScene 4 = .ok (.aload_n 0, 1) := by decide +kernel
theorem dX2_addScene_5 : decode cX2_addScene 5 = .ok (.getfield 31, 3) := by decide +kernel
theorem dX2_addScene_8 : decode cX2_addScene 8 = .ok (.iload_n 1, 1) := by decide +kernel
theorem dX2_addScene_9 : decode cX2_addScene 9 = .ok (.iastore, 1) := by decide +kernel
theorem dX2_addScene_10 : decode cX2_addScene 10 = .ok (.aload_n 0, 1) := by decide +kernel
theorem dX2_addScene_11 : decode cX2_addScene 11 = .ok (.getfield 24, 3) := by decide +kernel
theorem dX2_addScene_14 : decode cX2_addScene 14 = .ok (.aload_n 0, 1) := by decide +kernel
theorem dX2_addScene_15 : decode cX2_addScene 15 = .ok (.getfield 31, 3) := by decide +kernel
theorem dX2_addScene_18 : decode cX2_addScene 18 = .ok (.iload_n 2, 1) := by decide +kernel
theorem dX2_addScene_19 : decode cX2_addScene 19 = .ok (.iastore, 1) := by decide +kernel
theorem dX2_addScene_20 : decode cX2_addScene 20 = .ok (.aload_n 0, 1) := by decide +kernel
theorem dX2_addScene_21 : decode cX2_addScene 21 = .ok (.dup, 1) := by decide +kernel
theorem dX2_addScene_22 : decode cX2_addScene 22 = .ok (.getfield 31, 3) := by decide +kernel
theorem dX2_addScene_25 : decode cX2_addScene 25 = .ok (.iconst 1, 1) := by decide +kernel
theorem dX2_addScene_26 : decode cX2_addScene 26 = .ok (.iadd, 1) := by decide +kernel
theorem dX2_addScene_27 : decode cX2_addScene 27 = .ok (.putfield 31, 3) := by decide +kernel
theorem dX2_addScene_30 : decode cX2_addScene 30 = .ok (.aload_n 0, 1) := by decide +kernel
theorem dX2_addScene_31 : decode cX2_addScene 31 = .ok (.getfield 31, 3) := by decide +kernel
theorem dX2_addScene_34 : decode cX2_addScene 34 = .ok (.iconst 1, 1) := by decide +kernel
theorem dX2_addScene_35 : decode cX2_addScene 35 = .ok (.isub, 1) := by decide +kernel
theorem dX2_addScene_36 : decode cX2_addScene 36 = .ok (.ireturn, 1) := by decide +kernel
theorem dX2_allScenes_0 : decode cX2_allScenes 0 = .ok (.iconst 1, 1) := by decide +kernel
theorem dX2_allScenes_1 : decode cX2_allScenes 1 = .ok (.aload_n 0, 1) := by decide +kernel
theorem dX2_allScenes_2 : decode cX2_allScenes 2 = .ok (.getfield 31, 3) := by decide +kernel
theorem dX2_allScenes_5 : decode cX2_allScenes 5 = .ok (.ishl, 1) := by decide +kernel
theorem dX2_allScenes_6 : decode cX2_allScenes 6 = .ok (.iconst 1, 1) := by decide +kernel
theorem dX2_allScenes_7 : decode cX2_allScenes 7 = .ok (.isub, 1) := by decide +kernel
theorem dX2_allScenes_8 : decode cX2_allScenes 8 = .ok (.ireturn, 1) := by decide +kernel
theorem dX2_scenesWith_0 : decode cX2_scenesWith 0 = .ok (.iconst 0, 1) := by decide +kernel
theorem dX2_scenesWith_1 : decode cX2_scenesWith 1 = .ok (.istore_n 2, 1) := by decide +kernel
theorem dX2_scenesWith_2 : decode cX2_scenesWith 2 = .ok (.iconst 0, 1) := by decide +kernel
theorem dX2_scenesWith_3 : decode cX2_scenesWith 3 = .ok (.istore_n 3, 1) := by decide +kernel
theorem dX2_scenesWith_4 : decode cX2_scenesWith 4 = .ok (.iload_n 3, 1) := by decide +kernel
theorem dX2_scenesWith_5 : decode cX2_scenesWith 5 = .ok (.aload_n 0, 1) := by decide +kernel
theorem dX2_scenesWith_6 : decode cX2_scenesWith 6 = .ok (.getfield 31, 3) := by decide +kernel
theorem dX2_scenesWith_9 : decode cX2_scenesWith 9 = .ok (.if_icmp .ge 28, 3) := by decide +kernel
theorem dX2_scenesWith_12 : decode cX2_scenesWith 12 = .ok (.aload_n 0, 1) := by decide +kernel
theorem dX2_scenesWith_13 : decode cX2_scenesWith 13 = .ok (.getfield 21, 3) := by decide +kernel
theorem dX2_scenesWith_16 : decode cX2_scenesWith 16 = .ok (.iload_n 3, 1) := by decide +kernel
theorem dX2_scenesWith_17 : decode cX2_scenesWith 17 = .ok (.iaload, 1) := by decide +kernel
theorem dX2_scenesWith_18 : decode cX2_scenesWith 18 = .ok (.iload_n 1, 1) := by decide +kernel
theorem dX2_scenesWith_19 : decode cX2_scenesWith 19 = .ok (.invokestatic 34, 3) := by decide +kernel
theorem dX2_scenesWith_22 : decode cX2_scenesWith 22 = .ok (.ifCond .eq 9, 3) := by decide +kernel
theorem dX2_scenesWith_25 : decode cX2_scenesWith 25 = .ok (.iload_n 2, 1) := by decide +kernel
theorem dX2_scenesWith_26 : decode cX2_scenesWith 26 = .ok (.iconst 1, 1) := by decide +kernel
theorem dX2_scenesWith_27 : decode cX2_scenesWith 27 = .ok (.iload_n 3, 1) := by decide +kernel
theorem dX2_scenesWith_28 : decode cX2_scenesWith 28 = .ok (.ishl, 1) := by decide +kernel
theorem dX2_scenesWith_29 : decode cX2_scenesWith 29 = .ok (.ior, 1) := by decide +kernel
theorem dX2_scenesWith_30 : decode cX2_scenesWith 30 = .ok (.istore_n 2, 1) := by decide +kernel
theorem dX2_scenesWith_31 : decode cX2_scenesWith 31 = .ok (.iinc 3 1, 3) := by decide +kernel
theorem dX2_scenesWith_34 : decode cX2_scenesWith 34 = .ok (.goto (-30), 3) := by decide +kernel
theorem dX2_scenesWith_37 : decode cX2_scenesWith 37 = .ok (.iload_n 2, 1) := by decide +kernel
theorem dX2_scenesWith_38 : decode cX2_scenesWith 38 = .ok (.ireturn, 1) := by decide +kernel
theorem dX2_partsOf_0 : decode cX2_partsOf 0 = .ok (.iconst 0, 1) := by decide +kernel
theorem dX2_partsOf_1 : decode cX2_partsOf 1 = .ok (.istore_n 2, 1) := by decide +kernel
theorem dX2_partsOf_2 : decode cX2_partsOf 2 = .ok (.iconst 0, 1) := by decide +kernel
theorem dX2_partsOf_3 : decode cX2_partsOf 3 = .ok (.istore_n 3, 1) := by decide +kernel
theorem dX2_partsOf_4 : decode cX2_partsOf 4 = .ok (.iload_n 3, 1) := by decide +kernel
theorem dX2_partsOf_5 : decode cX2_partsOf 5 = .ok (.aload_n 0, 1) := by decide +kernel
theorem dX2_partsOf_6 : decode cX2_partsOf 6 = .ok (.getfield 31, 3) := by decide +kernel
theorem dX2_partsOf_9 : decode cX2_partsOf 9 = .ok (.if_icmp .ge 26, 3) := by decide +kernel
theorem dX2_partsOf_12 : decode cX2_partsOf 12 = .ok (.iload_n 1, 1) := by decide +kernel
theorem dX2_partsOf_13 : decode cX2_partsOf 13 = .ok (.iload_n 3, 1) := by decide +kernel
theorem dX2_partsOf_14 : decode cX2_partsOf 14 = .ok (.invokestatic 34, 3) := by decide +kernel
theorem dX2_partsOf_17 : decode cX2_partsOf 17 = .ok (.ifCond .eq 12, 3) := by decide +kernel
theorem dX2_partsOf_20 : decode cX2_partsOf 20 = .ok (.iload_n 2, 1) := by decide +kernel
theorem dX2_partsOf_21 : decode cX2_partsOf 21 = .ok (.aload_n 0, 1) := by decide +kernel
theorem dX2_partsOf_22 : decode cX2_partsOf 22 = .ok (.getfield 21, 3) := by decide +kernel
theorem dX2_partsOf_25 : decode cX2_partsOf 25 = .ok (.iload_n 3, 1) := by decide +kernel
theorem dX2_partsOf_26 : decode cX2_partsOf 26 = .ok (.iaload, 1) := by decide +kernel
theorem dX2_partsOf_27 : decode cX2_partsOf 27 = .ok (.ior, 1) := by decide +kernel
theorem dX2_partsOf_28 : decode cX2_partsOf 28 = .ok (.istore_n 2, 1) := by decide +kernel
theorem dX2_partsOf_29 : decode cX2_partsOf 29 = .ok (.iinc 3 1, 3) := by decide +kernel
theorem dX2_partsOf_32 : decode cX2_partsOf 32 = .ok (.goto (-28), 3) := by decide +kernel
theorem dX2_partsOf_35 : decode cX2_partsOf 35 = .ok (.iload_n 2, 1) := by decide +kernel
theorem dX2_partsOf_36 : decode cX2_partsOf 36 = .ok (.ireturn, 1) := by decide +kernel
theorem dX2_fillClashes_0 : decode cX2_fillClashes 0 = .ok (.iconst 0, 1) := by decide +kernel
theorem dX2_fillClashes_1 : decode cX2_fillClashes 1 = .ok (.istore_n 3, 1) := by decide +kernel
theorem dX2_fillClashes_2 : decode cX2_fillClashes 2 = .ok (.iload_n 3, 1) := by decide +kernel
theorem dX2_fillClashes_3 : decode cX2_fillClashes 3 = .ok (.aload_n 2, 1) := by decide +kernel
theorem dX2_fillClashes_4 : decode cX2_fillClashes 4 = .ok (.arraylength, 1) := by decide +kernel
theorem dX2_fillClashes_5 : decode cX2_fillClashes 5 = .ok (.if_icmp .ge 13, 3) := by decide +kernel
theorem dX2_fillClashes_8 : decode cX2_fillClashes 8 = .ok (.aload_n 2, 1) := by decide +kernel
theorem dX2_fillClashes_9 : decode cX2_fillClashes 9 = .ok (.iload_n 3, 1) := by decide +kernel
theorem dX2_fillClashes_10 : decode cX2_fillClashes 10 = .ok (.iconst 0, 1) := by decide +kernel
theorem dX2_fillClashes_11 : decode cX2_fillClashes 11 = .ok (.iastore, 1) := by decide +kernel
theorem dX2_fillClashes_12 : decode cX2_fillClashes 12 = .ok (.iinc 3 1, 3) := by decide +kernel
theorem dX2_fillClashes_15 : decode cX2_fillClashes 15 = .ok (.goto (-13), 3) := by decide +kernel
theorem dX2_fillClashes_18 : decode cX2_fillClashes 18 = .ok (.iconst (-1), 1) := by decide +kernel
theorem dX2_fillClashes_19 : decode cX2_fillClashes 19 = .ok (.istore_n 3, 1) := by decide +kernel
theorem dX2_fillClashes_20 : decode cX2_fillClashes 20 = .ok (.iconst 0, 1) := by decide +kernel
theorem dX2_fillClashes_21 : decode cX2_fillClashes 21 = .ok (.istore 4, 2) := by decide +kernel
theorem dX2_fillClashes_23 : decode cX2_fillClashes 23 = .ok (.iload 4, 2) := by decide +kernel
theorem dX2_fillClashes_25 : decode cX2_fillClashes 25 = .ok (.aload_n 0, 1) := by decide +kernel
theorem dX2_fillClashes_26 : decode cX2_fillClashes 26 = .ok (.getfield 31, 3) := by decide +kernel
theorem dX2_fillClashes_29 : decode cX2_fillClashes 29 = .ok (.if_icmp .ge 54, 3) := by decide +kernel
theorem dX2_fillClashes_32 : decode cX2_fillClashes 32 = .ok (.iload_n 1, 1) := by decide +kernel
theorem dX2_fillClashes_33 : decode cX2_fillClashes 33 = .ok (.iload 4, 2) := by decide +kernel
theorem dX2_fillClashes_35 : decode cX2_fillClashes 35 = .ok (.invokestatic 34, 3) := by decide +kernel
theorem dX2_fillClashes_38 : decode cX2_fillClashes 38 = .ok (.ifCond .ne 6, 3) := by decide +kernel
theorem dX2_fillClashes_41 : decode cX2_fillClashes 41 = .ok (.goto 36, 3) := by decide +kernel
theorem dX2_fillClashes_44 : decode cX2_fillClashes 44 = .ok (.aload_n 0, 1) := by decide +kernel
theorem dX2_fillClashes_45 : decode cX2_fillClashes 45 = .ok (.aload_n 0, 1) := by decide +kernel
theorem dX2_fillClashes_46 : decode cX2_fillClashes 46 = .ok (.getfield 21, 3) := by decide +kernel
theorem dX2_fillClashes_49 : decode cX2_fillClashes 49 = .ok (.iload 4, 2) := by decide +kernel
theorem dX2_fillClashes_51 : decode cX2_fillClashes 51 = .ok (.iaload, 1) := by decide +kernel
theorem dX2_fillClashes_52 : decode cX2_fillClashes 52 = .ok (.aload_n 2, 1) := by decide +kernel
theorem dX2_fillClashes_53 : decode cX2_fillClashes 53 = .ok (.invokevirtual 38, 3) := by decide +kernel
theorem dX2_fillClashes_56 : decode cX2_fillClashes 56 = .ok (.iload_n 3, 1) := by decide +kernel
theorem dX2_fillClashes_57 : decode cX2_fillClashes 57 = .ok (.iconst (-1), 1) := by decide +kernel
theorem dX2_fillClashes_58 : decode cX2_fillClashes 58 = .ok (.if_icmp .eq 16, 3) := by decide +kernel
theorem dX2_fillClashes_61 : decode cX2_fillClashes 61 = .ok (.aload_n 0, 1) := by decide +kernel
theorem dX2_fillClashes_62 : decode cX2_fillClashes 62 = .ok (.iload_n 3, 1) := by decide +kernel
theorem dX2_fillClashes_63 : decode cX2_fillClashes 63 = .ok (.aload_n 0, 1) := by decide +kernel
theorem dX2_fillClashes_64 : decode cX2_fillClashes 64 = .ok (.getfield 21, 3) := by decide +kernel
theorem dX2_fillClashes_67 : decode cX2_fillClashes 67 = .ok (.iload 4, 2) := by decide +kernel
theorem dX2_fillClashes_69 : decode cX2_fillClashes 69 = .ok (.iaload, 1) := by decide +kernel
theorem dX2_fillClashes_70 : decode cX2_fillClashes 70 = .ok (.aload_n 2, 1) := by decide +kernel
theorem dX2_fillClashes_71 : decode cX2_fillClashes 71 = .ok (.invokevirtual 42, 3) := by decide +kernel
theorem dX2_fillClashes_74 : decode cX2_fillClashes 74 = .ok (.iload 4, 2) := by decide +kernel
theorem dX2_fillClashes_76 : decode cX2_fillClashes 76 = .ok (.istore_n 3, 1) := by decide +kernel
theorem dX2_fillClashes_77 : decode cX2_fillClashes 77 = .ok (.iinc 4 1, 3) := by decide +kernel
theorem dX2_fillClashes_80 : decode cX2_fillClashes 80 = .ok (.goto (-57), 3) := by decide +kernel
theorem dX2_fillClashes_83 : decode cX2_fillClashes 83 = .ok (.return_, 1) := by decide +kernel
theorem dX2_clashTogether_0 : decode cX2_clashTogether 0 = .ok (.iconst 0, 1) := by decide +kernel
theorem dX2_clashTogether_1 : decode cX2_clashTogether 1 = .ok (.istore_n 3, 1) := by decide +kernel
theorem dX2_clashTogether_2 : decode cX2_clashTogether 2 = .ok (.iload_n 3, 1) := by decide +kernel
theorem dX2_clashTogether_3 : decode cX2_clashTogether 3 = .ok (.aload_n 0, 1) := by decide +kernel
theorem dX2_clashTogether_4 : decode cX2_clashTogether 4 = .ok (.getfield 27, 3) := by decide +kernel
theorem dX2_clashTogether_7 : decode cX2_clashTogether 7 = .ok (.if_icmp .ge 30, 3) := by decide +kernel
theorem dX2_clashTogether_10 : decode cX2_clashTogether 10 = .ok (.iload_n 1, 1) := by decide +kernel
theorem dX2_clashTogether_11 : decode cX2_clashTogether 11 = .ok (.iload_n 3, 1) := by decide +kernel
theorem dX2_clashTogether_12 : decode cX2_clashTogether 12 = .ok (.invokestatic 34, 3) := by decide +kernel
theorem dX2_clashTogether_15 : decode cX2_clashTogether 15 = .ok (.ifCond .eq 16, 3) := by decide +kernel
theorem dX2_clashTogether_18 : decode cX2_clashTogether 18 = .ok (.aload_n 2, 1) := by decide +kernel
theorem dX2_clashTogether_19 : decode cX2_clashTogether 19 = .ok (.iload_n 3, 1) := by decide +kernel
theorem dX2_clashTogether_20 : decode cX2_clashTogether 20 = .ok (.dup2, 1) := by decide +kernel
theorem dX2_clashTogether_21 : decode cX2_clashTogether 21 = .ok (.iaload, 1) := by decide +kernel
theorem dX2_clashTogether_22 : decode cX2_clashTogether 22 = .ok (.iload_n 1, 1) := by decide +kernel
theorem dX2_clashTogether_23 : decode cX2_clashTogether 23 = .ok (.iconst 1, 1) := by decide +kernel
theorem dX2_clashTogether_24 : decode cX2_clashTogether 24 = .ok (.iload_n 3, 1) := by decide +kernel
theorem dX2_clashTogether_25 : decode cX2_clashTogether 25 = .ok (.ishl, 1) := by decide +kernel
theorem dX2_clashTogether_26 : decode cX2_clashTogether 26 = .ok (.iconst (-1), 1) := by decide +kernel
theorem dX2_clashTogether_27 : decode cX2_clashTogether 27 = .ok (.ixor, 1) := by decide +kernel
theorem dX2_clashTogether_28 : decode cX2_clashTogether 28 = .ok (.iand, 1) := by decide +kernel
theorem dX2_clashTogether_29 : decode cX2_clashTogether 29 = .ok (.ior, 1) := by decide +kernel
theorem dX2_clashTogether_30 : decode cX2_clashTogether 30 = .ok (.iastore, 1) := by decide +kernel
theorem dX2_clashTogether_31 : decode cX2_clashTogether 31 = .ok (.iinc 3 1, 3) := by decide +kernel
theorem dX2_clashTogether_34 : decode cX2_clashTogether 34 = .ok (.goto (-32), 3) := by decide +kernel
theorem dX2_clashTogether_37 : decode cX2_clashTogether 37 = .ok (.return_, 1) := by decide +kernel
theorem dX2_clashInTurn_0 : decode cX2_clashInTurn 0 = .ok (.iconst 0, 1) := by decide +kernel
theorem dX2_clashInTurn_1 : decode cX2_clashInTurn 1 = .ok (.istore 4, 2) := by decide +kernel
theorem dX2_clashInTurn_3 : decode cX2_clashInTurn 3 = .ok (.iload 4, 2) := by decide +kernel
theorem dX2_clashInTurn_5 : decode cX2_clashInTurn 5 = .ok (.aload_n 0, 1) := by decide +kernel
theorem dX2_clashInTurn_6 : decode cX2_clashInTurn 6 = .ok (.getfield 27, 3) := by decide +kernel
theorem dX2_clashInTurn_9 : decode cX2_clashInTurn 9 = .ok (.if_icmp .ge 106, 3) := by decide +kernel
theorem dX2_clashInTurn_12 : decode cX2_clashInTurn 12 = .ok (.aload_n 0, 1) := by decide +kernel
theorem dX2_clashInTurn_13 : decode cX2_clashInTurn 13 = .ok (.getfield 21, 3) := by decide +kernel
theorem dX2_clashInTurn_16 : decode cX2_clashInTurn 16 = .ok (.iload_n 1, 1) := by decide +kernel
theorem dX2_clashInTurn_17 : decode cX2_clashInTurn 17 = .ok (.iaload, 1) := by decide +kernel
theorem dX2_clashInTurn_18 : decode cX2_clashInTurn 18 = .ok (.iload 4, 2) := by decide +kernel
theorem dX2_clashInTurn_20 : decode cX2_clashInTurn 20 = .ok (.invokestatic 34, 3) := by decide +kernel
theorem dX2_clashInTurn_23 : decode cX2_clashInTurn 23 = .ok (.ifCond .ne 6, 3) := by decide +kernel
theorem dX2_clashInTurn_26 : decode cX2_clashInTurn 26 = .ok (.goto 83, 3) := by decide +kernel
theorem dX2_clashInTurn_29 : decode cX2_clashInTurn 29 = .ok (.iconst 0, 1) := by decide +kernel
theorem dX2_clashInTurn_30 : decode cX2_clashInTurn 30 = .ok (.istore 5, 2) := by decide +kernel
theorem dX2_clashInTurn_32 : decode cX2_clashInTurn 32 = .ok (.iload 5, 2) := by decide +kernel
theorem dX2_clashInTurn_34 : decode cX2_clashInTurn 34 = .ok (.aload_n 0, 1) := by decide +kernel
theorem dX2_clashInTurn_35 : decode cX2_clashInTurn 35 = .ok (.getfield 27, 3) := by decide +kernel
theorem dX2_clashInTurn_38 : decode cX2_clashInTurn 38 = .ok (.if_icmp .ge 71, 3) := by decide +kernel
theorem dX2_clashInTurn_41 : decode cX2_clashInTurn 41 = .ok (.iload 5, 2) := by decide +kernel
theorem dX2_clashInTurn_43 : decode cX2_clashInTurn 43 = .ok (.iload 4, 2) := by decide +kernel
theorem dX2_clashInTurn_45 : decode cX2_clashInTurn 45 = .ok (.if_icmp .eq 58, 3) := by decide +kernel
theorem dX2_clashInTurn_48 : decode cX2_clashInTurn 48 = .ok (.iload_n 2, 1) := by decide +kernel
theorem dX2_clashInTurn_49 : decode cX2_clashInTurn 49 = .ok (.iload 5, 2) := by decide +kernel
theorem dX2_clashInTurn_51 : decode cX2_clashInTurn 51 = .ok (.invokestatic 34, 3) := by decide +kernel
theorem dX2_clashInTurn_54 : decode cX2_clashInTurn 54 = .ok (.ifCond .eq 49, 3) := by decide +kernel
theorem dX2_clashInTurn_57 : decode cX2_clashInTurn 57 = .ok (.aload_n 0, 1) := by decide +kernel
theorem dX2_clashInTurn_58 : decode cX2_clashInTurn 58 = .ok (.getfield 18, 3) := by decide +kernel
theorem dX2_clashInTurn_61 : decode cX2_clashInTurn 61 = .ok (.iload 4, 2) := by decide +kernel
theorem dX2_clashInTurn_63 : decode cX2_clashInTurn 63 = .ok (.iaload, 1) := by decide +kernel
theorem dX2_clashInTurn_64 : decode cX2_clashInTurn 64 = .ok (.aload_n 0, 1) := by decide +kernel
theorem dX2_clashInTurn_65 : decode cX2_clashInTurn 65 = .ok (.getfield 18, 3) := by decide +kernel
theorem dX2_clashInTurn_68 : decode cX2_clashInTurn 68 = .ok (.iload 5, 2) := by decide +kernel
theorem dX2_clashInTurn_70 : decode cX2_clashInTurn 70 = .ok (.iaload, 1) := by decide +kernel
theorem dX2_clashInTurn_71 : decode cX2_clashInTurn 71 = .ok (.iadd, 1) := by decide +kernel
theorem dX2_clashInTurn_72 : decode cX2_clashInTurn 72 = .ok (.aload_n 0, 1) := by decide +kernel
theorem dX2_clashInTurn_73 : decode cX2_clashInTurn 73 = .ok (.getfield 24, 3) := by decide +kernel
theorem dX2_clashInTurn_76 : decode cX2_clashInTurn 76 = .ok (.iload_n 1, 1) := by decide +kernel
theorem dX2_clashInTurn_77 : decode cX2_clashInTurn 77 = .ok (.iaload, 1) := by decide +kernel
theorem dX2_clashInTurn_78 : decode cX2_clashInTurn 78 = .ok (.if_icmp .le 25, 3) := by decide +kernel
theorem dX2_clashInTurn_81 : decode cX2_clashInTurn 81 = .ok (.aload_n 3, 1) := by decide +kernel
theorem dX2_clashInTurn_82 : decode cX2_clashInTurn 82 = .ok (.iload 4, 2) := by decide +kernel
theorem dX2_clashInTurn_84 : decode cX2_clashInTurn 84 = .ok (.dup2, 1) := by decide +kernel
theorem dX2_clashInTurn_85 : decode cX2_clashInTurn 85 = .ok (.iaload, 1) := by decide +kernel
theorem dX2_clashInTurn_86 : decode cX2_clashInTurn 86 = .ok (.iconst 1, 1) := by decide +kernel
theorem dX2_clashInTurn_87 : decode cX2_clashInTurn 87 = .ok (.iload 5, 2) := by decide +kernel
theorem dX2_clashInTurn_89 : decode cX2_clashInTurn 89 = .ok (.ishl, 1) := by decide +kernel
theorem dX2_clashInTurn_90 : decode cX2_clashInTurn 90 = .ok (.ior, 1) := by decide +kernel
theorem dX2_clashInTurn_91 : decode cX2_clashInTurn 91 = .ok (.iastore, 1) := by decide +kernel
theorem dX2_clashInTurn_92 : decode cX2_clashInTurn 92 = .ok (.aload_n 3, 1) := by decide +kernel
theorem dX2_clashInTurn_93 : decode cX2_clashInTurn 93 = .ok (.iload 5, 2) := by decide +kernel
theorem dX2_clashInTurn_95 : decode cX2_clashInTurn 95 = .ok (.dup2, 1) := by decide +kernel
theorem dX2_clashInTurn_96 : decode cX2_clashInTurn 96 = .ok (.iaload, 1) := by decide +kernel
theorem dX2_clashInTurn_97 : decode cX2_clashInTurn 97 = .ok (.iconst 1, 1) := by decide +kernel
theorem dX2_clashInTurn_98 : decode cX2_clashInTurn 98 = .ok (.iload 4, 2) := by decide +kernel
theorem dX2_clashInTurn_100 : decode cX2_clashInTurn 100 = .ok (.ishl, 1) := by decide +kernel
theorem dX2_clashInTurn_101 : decode cX2_clashInTurn 101 = .ok (.ior, 1) := by decide +kernel
theorem dX2_clashInTurn_102 : decode cX2_clashInTurn 102 = .ok (.iastore, 1) := by decide +kernel
theorem dX2_clashInTurn_103 : decode cX2_clashInTurn 103 = .ok (.iinc 5 1, 3) := by decide +kernel
theorem dX2_clashInTurn_106 : decode cX2_clashInTurn 106 = .ok (.goto (-74), 3) := by decide +kernel
theorem dX2_clashInTurn_109 : decode cX2_clashInTurn 109 = .ok (.iinc 4 1, 3) := by decide +kernel
theorem dX2_clashInTurn_112 : decode cX2_clashInTurn 112 = .ok (.goto (-109), 3) := by decide +kernel
theorem dX2_clashInTurn_115 : decode cX2_clashInTurn 115 = .ok (.return_, 1) := by decide +kernel
theorem dX3_init_0 : decode cX3_init 0 = .ok (.aload_n 0, 1) := by decide +kernel
theorem dX3_init_1 : decode cX3_init 1 = .ok (.invokespecial 3, 3) := by decide +kernel
theorem dX3_init_4 : decode cX3_init 4 = .ok (.aload_n 0, 1) := by decide +kernel
theorem dX3_init_5 : decode cX3_init 5 = .ok (.iconst 5, 1) := by decide +kernel
theorem dX3_init_6 : decode cX3_init 6 = .ok (.newarray .int, 2) := by decide +kernel
theorem dX3_init_8 : decode cX3_init 8 = .ok (.putfield 9, 3) := by decide +kernel
theorem dX3_init_11 : decode cX3_init 11 = .ok (.aload_n 0, 1) := by decide +kernel
theorem dX3_init_12 : decode cX3_init 12 = .ok (.iconst 5, 1) := by decide +kernel
theorem dX3_init_13 : decode cX3_init 13 = .ok (.newarray .int, 2) := by decide +kernel
theorem dX3_init_15 : decode cX3_init 15 = .ok (.putfield 15, 3) := by decide +kernel
theorem dX3_init_18 : decode cX3_init 18 = .ok (.aload_n 0, 1) := by decide +kernel
theorem dX3_init_19 : decode cX3_init 19 = .ok (.iconst 5, 1) := by decide +kernel
theorem dX3_init_20 : decode cX3_init 20 = .ok (.newarray .int, 2) := by decide +kernel
theorem dX3_init_22 : decode cX3_init 22 = .ok (.putfield 18, 3) := by decide +kernel
theorem dX3_init_25 : decode cX3_init 25 = .ok (.aload_n 0, 1) := by decide +kernel
theorem dX3_init_26 : decode cX3_init 26 = .ok (.bipush 32, 2) := by decide +kernel
theorem dX3_init_28 : decode cX3_init 28 = .ok (.newarray .int, 2) := by decide +kernel
theorem dX3_init_30 : decode cX3_init 30 = .ok (.putfield 21, 3) := by decide +kernel
theorem dX3_init_33 : decode cX3_init 33 = .ok (.aload_n 0, 1) := by decide +kernel
theorem dX3_init_34 : decode cX3_init 34 = .ok (.bipush 32, 2) := by decide +kernel
theorem dX3_init_36 : decode cX3_init 36 = .ok (.iconst 5, 1) := by decide +kernel
theorem dX3_init_37 : decode cX3_init 37 = .ok (.multianewarray 24 2, 4) := by decide +kernel
theorem dX3_init_41 : decode cX3_init 41 = .ok (.putfield 26, 3) := by decide +kernel
theorem dX3_init_44 : decode cX3_init 44 = .ok (.return_, 1) := by decide +kernel
theorem dX3_addTown_0 : decode cX3_addTown 0 = .ok (.aload_n 0, 1) := by decide +kernel
theorem dX3_addTown_1 : decode cX3_addTown 1 = .ok (.getfield 29, 3) := by decide +kernel
theorem dX3_addTown_4 : decode cX3_addTown 4 = .ok (.istore 4, 2) := by decide +kernel
theorem dX3_addTown_6 : decode cX3_addTown 6 = .ok (.aload_n 0, 1) := by decide +kernel
theorem dX3_addTown_7 : decode cX3_addTown 7 = .ok (.getfield 9, 3) := by decide +kernel
theorem dX3_addTown_10 : decode cX3_addTown 10 = .ok (.iload 4, 2) := by decide +kernel
theorem dX3_addTown_12 : decode cX3_addTown 12 = .ok (.iload_n 1, 1) := by decide +kernel
theorem dX3_addTown_13 : decode cX3_addTown 13 = .ok (.iastore, 1) := by decide +kernel
theorem dX3_addTown_14 : decode cX3_addTown 14 = .ok (.aload_n 0, 1) := by decide +kernel
theorem dX3_addTown_15 : decode cX3_addTown 15 = .ok (.getfield 15, 3) := by decide +kernel
theorem dX3_addTown_18 : decode cX3_addTown 18 = .ok (.iload 4, 2) := by decide +kernel
theorem dX3_addTown_20 : decode cX3_addTown 20 = .ok (.iload_n 2, 1) := by decide +kernel
theorem dX3_addTown_21 : decode cX3_addTown 21 = .ok (.iastore, 1) := by decide +kernel
theorem dX3_addTown_22 : decode cX3_addTown 22 = .ok (.aload_n 0, 1) := by decide +kernel
theorem dX3_addTown_23 : decode cX3_addTown 23 = .ok (.getfield 18, 3) := by decide +kernel
theorem dX3_addTown_26 : decode cX3_addTown 26 = .ok (.iload 4, 2) := by decide +kernel
theorem dX3_addTown_28 : decode cX3_addTown 28 = .ok (.iload_n 3, 1) := by decide +kernel
theorem dX3_addTown_29 : decode cX3_addTown 29 = .ok (.iastore, 1) := by decide +kernel
theorem dX3_addTown_30 : decode cX3_addTown 30 = .ok (.aload_n 0, 1) := by decide +kernel
theorem dX3_addTown_31 : decode cX3_addTown 31 = .ok (.dup, 1) := by decide +kernel
theorem dX3_addTown_32 : decode cX3_addTown 32 = .ok (.getfield 29, 3) := by decide +kernel
theorem dX3_addTown_35 : decode cX3_addTown 35 = .ok (.iconst 1, 1) := by decide +kernel
theorem dX3_addTown_36 : decode cX3_addTown 36 = .ok (.iadd, 1) := by decide +kernel
theorem dX3_addTown_37 : decode cX3_addTown 37 = .ok (.putfield 29, 3) := by decide +kernel
theorem dX3_addTown_40 : decode cX3_addTown 40 = .ok (.iconst 1, 1) := by decide +kernel
theorem dX3_addTown_41 : decode cX3_addTown 41 = .ok (.iload 4, 2) := by decide +kernel
theorem dX3_addTown_43 : decode cX3_addTown 43 = .ok (.ishl, 1) := by decide +kernel
theorem dX3_addTown_44 : decode cX3_addTown 44 = .ok (.istore 5, 2) := by decide +kernel
theorem dX3_addTown_46 : decode cX3_addTown 46 = .ok (.iload 5, 2) := by decide +kernel
theorem dX3_addTown_48 : decode cX3_addTown 48 = .ok (.iconst 1, 1) := by decide +kernel
theorem dX3_addTown_49 : decode cX3_addTown 49 = .ok (.aload_n 0, 1) := by decide +kernel
theorem dX3_addTown_50 : decode cX3_addTown 50 = .ok (.getfield 29, 3) := by decide +kernel
theorem dX3_addTown_53 : decode cX3_addTown 53 = .ok (.ishl, 1) := by decide +kernel
theorem dX3_addTown_54 : decode cX3_addTown 54 = .ok (.if_icmp .ge 15, 3) := by decide +kernel
theorem dX3_addTown_57 : decode cX3_addTown 57 = .ok (.aload_n 0, 1) := by decide +kernel
theorem dX3_addTown_58 : decode cX3_addTown 58 = .ok (.iload 5, 2) := by decide +kernel
theorem dX3_addTown_60 : decode cX3_addTown 60 = .ok (.invokevirtual 33, 3) := by decide +kernel
theorem dX3_addTown_63 : decode cX3_addTown 63 = .ok (.iinc 5 1, 3) := by decide +kernel
theorem dX3_addTown_66 : decode cX3_addTown 66 = .ok (.goto (-20), 3) := by decide +kernel
theorem dX3_addTown_69 : decode cX3_addTown 69 = .ok (.iload 4, 2) := by decide +kernel
theorem dX3_addTown_71 : decode cX3_addTown 71 = .ok (.ireturn, 1) := by decide +kernel
theorem dX3_measure_0 : decode cX3_measure 0 = .ok (.aload_n 0, 1) := by decide +kernel
theorem dX3_measure_1 : decode cX3_measure 1 = .ok (.getfield 21, 3) := by decide +kernel
theorem dX3_measure_4 : decode cX3_measure 4 = .ok (.iload_n 1, 1) := by decide +kernel
theorem dX3_measure_5 : decode cX3_measure 5 = .ok (.iconst (-1), 1) := by decide +kernel
theorem dX3_measure_6 : decode cX3_measure 6 = .ok (.iastore, 1) := by decide +kernel
theorem dX3_measure_7 : decode cX3_measure 7 = .ok (.iconst 0, 1) := by decide +kernel
theorem dX3_measure_8 : decode cX3_measure 8 = .ok (.istore_n 2, 1) := by decide +kernel
theorem dX3_measure_9 : decode cX3_measure 9 = .ok (.iload_n 2, 1) := by decide +kernel
theorem dX3_measure_10 : decode cX3_measure 10 = .ok (.aload_n 0, 1) := by decide +kernel
theorem dX3_measure_11 : decode cX3_measure 11 = .ok (.getfield 29, 3) := by decide +kernel
theorem dX3_measure_14 : decode cX3_measure 14 = .ok (.if_icmp .ge 82, 3) := by decide +kernel
theorem dX3_measure_17 : decode cX3_measure 17 = .ok (.iload_n 1, 1) := by decide +kernel
theorem dX3_measure_18 : decode cX3_measure 18 = .ok (.iload_n 2, 1) := by decide +kernel
theorem dX3_measure_19 : decode cX3_measure 19 = .ok (.invokestatic 37, 3) := by decide +kernel
theorem dX3_measure_22 : decode cX3_measure 22 = .ok (.ifCond .ne 6, 3) := by decide +kernel
theorem dX3_measure_25 : decode cX3_measure 25 = .ok (.goto 65, 3) := by decide +kernel
theorem dX3_measure_28 : decode cX3_measure 28 = .ok (.aload_n 0, 1) := by decide +kernel
theorem dX3_measure_29 : decode cX3_measure 29 = .ok (.getfield 26, 3) := by decide +kernel
theorem dX3_measure_32 : decode cX3_measure 32 = .ok (.iload_n 1, 1) := by decide +kernel
theorem dX3_measure_33 : decode cX3_measure 33 = .ok (.aaload, 1) := by decide +kernel
theorem dX3_measure_34 : decode cX3_measure 34 = .ok (.iload_n 2, 1) := by decide +kernel
theorem dX3_measure_35 : decode cX3_measure 35 = .ok (.aload_n 0, 1) := by decide +kernel
theorem dX3_measure_36 : decode cX3_measure 36 = .ok (.iload_n 1, 1) := by decide +kernel
theorem dX3_measure_37 : decode cX3_measure 37 = .ok (.iconst 1, 1) := by decide +kernel
theorem dX3_measure_38 : decode cX3_measure 38 = .ok (.iload_n 2, 1) := by decide +kernel
theorem dX3_measure_39 : decode cX3_measure 39 = .ok (.ishl, 1) := by decide +kernel
theorem dX3_measure_40 : decode cX3_measure 40 = .ok (.iconst (-1), 1) := by decide +kernel
theorem dX3_measure_41 : decode cX3_measure 41 = .ok (.ixor, 1) := by decide +kernel
theorem dX3_measure_42 : decode cX3_measure 42 = .ok (.iand, 1) := by decide +kernel
theorem dX3_measure_43 : decode cX3_measure 43 = .ok (.iload_n 2, 1) := by decide +kernel
theorem dX3_measure_44 : decode cX3_measure 44 = .ok (.invokevirtual 41, 3) := by decide +kernel
theorem dX3_measure_47 : decode cX3_measure 47 = .ok (.iastore, 1) := by decide +kernel
theorem dX3_measure_48 : decode cX3_measure 48 = .ok (.aload_n 0, 1) := by decide +kernel
theorem dX3_measure_49 : decode cX3_measure 49 = .ok (.getfield 26, 3) := by decide +kernel
theorem dX3_measure_52 : decode cX3_measure 52 = .ok (.iload_n 1, 1) := by decide +kernel
theorem dX3_measure_53 : decode cX3_measure 53 = .ok (.aaload, 1) := by decide +kernel
theorem dX3_measure_54 : decode cX3_measure 54 = .ok (.iload_n 2, 1) := by decide +kernel
theorem dX3_measure_55 : decode cX3_measure 55 = .ok (.iaload, 1) := by decide +kernel
theorem dX3_measure_56 : decode cX3_measure 56 = .ok (.aload_n 0, 1) := by decide +kernel
theorem dX3_measure_57 : decode cX3_measure 57 = .ok (.iload_n 2, 1) := by decide +kernel
theorem dX3_measure_58 : decode cX3_measure 58 = .ok (.invokevirtual 45, 3) := by decide +kernel
theorem dX3_measure_61 : decode cX3_measure 61 = .ok (.iadd, 1) := by decide +kernel
theorem dX3_measure_62 : decode cX3_measure 62 = .ok (.istore_n 3, 1) := by decide +kernel
theorem dX3_measure_63 : decode cX3_measure 63 = .ok (.aload_n 0, 1) := by decide +kernel
theorem dX3_measure_64 : decode cX3_measure 64 = .ok (.getfield 21, 3) := by decide +kernel
theorem dX3_measure_67 : decode cX3_measure 67 = .ok (.iload_n 1, 1) := by decide +kernel
theorem dX3_measure_68 : decode cX3_measure 68 = .ok (.iaload, 1) := by decide +kernel
theorem dX3_measure_69 : decode cX3_measure 69 = .ok (.iconst (-1), 1) := by decide +kernel
theorem dX3_measure_70 : decode cX3_measure 70 = .ok (.if_icmp .eq 13, 3) := by decide +kernel
theorem dX3_measure_73 : decode cX3_measure 73 = .ok (.iload_n 3, 1) := by decide +kernel
theorem dX3_measure_74 : decode cX3_measure 74 = .ok (.aload_n 0, 1) := by decide +kernel
theorem dX3_measure_75 : decode cX3_measure 75 = .ok (.getfield 21, 3) := by decide +kernel
theorem dX3_measure_78 : decode cX3_measure 78 = .ok (.iload_n 1, 1) := by decide +kernel
theorem dX3_measure_79 : decode cX3_measure 79 = .ok (.iaload, 1) := by decide +kernel
theorem dX3_measure_80 : decode cX3_measure 80 = .ok (.if_icmp .ge 10, 3) := by decide +kernel
theorem dX3_measure_83 : decode cX3_measure 83 = .ok (.aload_n 0, 1) := by decide +kernel
theorem dX3_measure_84 : decode cX3_measure 84 = .ok (.getfield 21, 3) := by decide +kernel
theorem dX3_measure_87 : decode cX3_measure 87 = .ok (.iload_n 1, 1) := by decide +kernel
theorem dX3_measure_88 : decode cX3_measure 88 = .ok (.iload_n 3, 1) := by decide +kernel
theorem dX3_measure_89 : decode cX3_measure 89 = .ok (.iastore, 1) := by decide +kernel
theorem dX3_measure_90 : decode cX3_measure 90 = .ok (.iinc 2 1, 3) := by decide +kernel
theorem dX3_measure_93 : decode cX3_measure 93 = .ok (.goto (-84), 3) := by decide +kernel
theorem dX3_measure_96 : decode cX3_measure 96 = .ok (.return_, 1) := by decide +kernel
theorem dX3_milesOut_0 : decode cX3_milesOut 0 = .ok (.iload_n 1, 1) := by decide +kernel
theorem dX3_milesOut_1 : decode cX3_milesOut 1 = .ok (.ifCond .ne 9, 3) := by decide +kernel
theorem dX3_milesOut_4 : decode cX3_milesOut 4 = .ok (.aload_n 0, 1) := by decide +kernel
theorem dX3_milesOut_5 : decode cX3_milesOut 5 = .ok (.iload_n 2, 1) := by decide +kernel
theorem dX3_milesOut_6 : decode cX3_milesOut 6 = .ok (.invokevirtual 45, 3) := by decide +kernel
theorem dX3_milesOut_9 : decode cX3_milesOut 9 = .ok (.ireturn, 1) := by decide +kernel
theorem dX3_milesOut_10 : decode cX3_milesOut 10 = .ok (.iconst (-1), 1) := by decide +kernel
theorem dX3_milesOut_11 : decode cX3_milesOut 11 = .ok (.istore_n 3, 1) := by decide +kernel
theorem dX3_milesOut_12 : decode cX3_milesOut 12 = .ok (.iconst 0, 1) := by decide +kernel
theorem dX3_milesOut_13 : decode cX3_milesOut 13 = .ok (.istore 4, 2) := by decide +kernel
theorem dX3_milesOut_15 : decode cX3_milesOut 15 = .ok (.iload 4, 2) := by decide +kernel
theorem dX3_milesOut_17 : decode cX3_milesOut 17 = .ok (.aload_n 0, 1) := by decide +kernel
theorem dX3_milesOut_18 : decode cX3_milesOut 18 = .ok (.getfield 29, 3) := by decide +kernel
theorem dX3_milesOut_21 : decode cX3_milesOut 21 = .ok (.if_icmp .ge 82, 3) := by decide +kernel
theorem dX3_milesOut_24 : decode cX3_milesOut 24 = .ok (.iload_n 1, 1) := by decide +kernel
theorem dX3_milesOut_25 : decode cX3_milesOut 25 = .ok (.iload 4, 2) := by decide +kernel
theorem dX3_milesOut_27 : decode cX3_milesOut 27 = .ok (.invokestatic 37, 3) := by decide +kernel
theorem dX3_milesOut_30 : decode cX3_milesOut 30 = .ok (.ifCond .ne 6, 3) := by decide +kernel
theorem dX3_milesOut_33 : decode cX3_milesOut 33 = .ok (.goto 64, 3) := by decide +kernel
theorem dX3_milesOut_36 : decode cX3_milesOut 36 = .ok (.aload_n 0, 1) := by decide +kernel
theorem dX3_milesOut_37 : decode cX3_milesOut 37 = .ok (.getfield 26, 3) := by decide +kernel
theorem dX3_milesOut_40 : decode cX3_milesOut 40 = .ok (.iload_n 1, 1) := by decide +kernel
theorem dX3_milesOut_41 : decode cX3_milesOut 41 = .ok (.aaload, 1) := by decide +kernel
theorem dX3_milesOut_42 : decode cX3_milesOut 42 = .ok (.iload 4, 2) := by decide +kernel
theorem dX3_milesOut_44 : decode cX3_milesOut 44 = .ok (.iaload, 1) := by decide +kernel
theorem dX3_milesOut_45 : decode cX3_milesOut 45 = .ok (.aload_n 0, 1) := by decide +kernel
theorem dX3_milesOut_46 : decode cX3_milesOut 46 = .ok (.getfield 9, 3) := by decide +kernel
theorem dX3_milesOut_49 : decode cX3_milesOut 49 = .ok (.iload 4, 2) := by decide +kernel
theorem dX3_milesOut_51 : decode cX3_milesOut 51 = .ok (.iaload, 1) := by decide +kernel
theorem dX3_milesOut_52 : decode cX3_milesOut 52 = .ok (.aload_n 0, 1) := by decide +kernel
theorem dX3_milesOut_53 : decode cX3_milesOut 53 = .ok (.getfield 9, 3) := by decide +kernel
theorem dX3_milesOut_56 : decode cX3_milesOut 56 = .ok (.iload_n 2, 1) := by decide +kernel
theorem dX3_milesOut_57 : decode cX3_milesOut 57 = .ok (.iaload, 1) := by decide +kernel
theorem dX3_milesOut_58 : decode cX3_milesOut 58 = .ok (.isub, 1) := by decide +kernel
theorem dX3_milesOut_59 : decode cX3_milesOut 59 = .ok (.invokestatic 49, 3) := by decide +kernel
theorem dX3_milesOut_62 : decode cX3_milesOut 62 = .ok (.iadd, 1) := by decide +kernel
theorem dX3_milesOut_63 : decode cX3_milesOut 63 = .ok (.aload_n 0, 1) := by decide +kernel
theorem dX3_milesOut_64 : decode cX3_milesOut 64 = .ok (.getfield 15, 3) := by decide +kernel
theorem dX3_milesOut_67 : decode cX3_milesOut 67 = .ok (.iload 4, 2) := by decide +kernel
theorem dX3_milesOut_69 : decode cX3_milesOut 69 = .ok (.iaload, 1) := by decide +kernel
theorem dX3_milesOut_70 : decode cX3_milesOut 70 = .ok (.aload_n 0, 1) := by decide +kernel
theorem dX3_milesOut_71 : decode cX3_milesOut 71 = .ok (.getfield 15, 3) := by decide +kernel
theorem dX3_milesOut_74 : decode cX3_milesOut 74 = .ok (.iload_n 2, 1) := by decide +kernel
theorem dX3_milesOut_75 : decode cX3_milesOut 75 = .ok (.iaload, 1) := by decide +kernel
theorem dX3_milesOut_76 : decode cX3_milesOut 76 = .ok (.isub, 1) := by decide +kernel
theorem dX3_milesOut_77 : decode cX3_milesOut 77 = .ok (.invokestatic 49, 3) := by decide +kernel
theorem dX3_milesOut_80 : decode cX3_milesOut 80 = .ok (.iadd, 1) := by decide +kernel
theorem dX3_milesOut_81 : decode cX3_milesOut 81 = .ok (.istore 5, 2) := by decide +kernel
theorem dX3_milesOut_83 : decode cX3_milesOut 83 = .ok (.iload_n 3, 1) := by decide +kernel
theorem dX3_milesOut_84 : decode cX3_milesOut 84 = .ok (.iconst (-1), 1) := by decide +kernel
theorem dX3_milesOut_85 : decode cX3_milesOut 85 = .ok (.if_icmp .eq 9, 3) := by decide +kernel
theorem dX3_milesOut_88 : decode cX3_milesOut 88 = .ok (.iload 5, 2) := by decide +kernel
theorem dX3_milesOut_90 : decode cX3_milesOut 90 = .ok (.iload_n 3, 1) := by decide +kernel
theorem dX3_milesOut_91 : decode cX3_milesOut 91 = .ok (.if_icmp .ge 6, 3) := by decide +kernel
theorem dX3_milesOut_94 : decode cX3_milesOut 94 = .ok (.iload 5, 2) := by decide +kernel
theorem dX3_milesOut_96 : decode cX3_milesOut 96 = .ok (.istore_n 3, 1) := by decide +kernel
theorem dX3_milesOut_97 : decode cX3_milesOut 97 = .ok (.iinc 4 1, 3) := by decide +kernel
theorem dX3_milesOut_100 : decode cX3_milesOut 100 = .ok (.goto (-85), 3) := by decide +kernel
theorem dX3_milesOut_103 : decode cX3_milesOut 103 = .ok (.iload_n 3, 1) := by decide +kernel
theorem dX3_milesOut_104 : decode cX3_milesOut 104 = .ok (.ireturn, 1) := by decide +kernel
theorem dX3_milesHome_0 : decode cX3_milesHome 0 = .ok (.aload_n 0, 1) := by decide +kernel
theorem dX3_milesHome_1 : decode cX3_milesHome 1 = .ok (.getfield 9, 3) := by decide +kernel
theorem dX3_milesHome_4 : decode cX3_milesHome 4 = .ok (.iload_n 1, 1) := by decide +kernel
theorem dX3_milesHome_5 : decode cX3_milesHome 5 = .ok (.iaload, 1) := by decide +kernel
theorem dX3_milesHome_6 : decode cX3_milesHome 6 = .ok (.aload_n 0, 1) := by decide +kernel
theorem dX3_milesHome_7 : decode cX3_milesHome 7 = .ok (.getfield 15, 3) := by decide +kernel
theorem dX3_milesHome_10 : decode cX3_milesHome 10 = .ok (.iload_n 1, 1) := by decide +kernel
theorem dX3_milesHome_11 : decode cX3_milesHome 11 = .ok (.iaload, 1) := by decide +kernel
theorem dX3_milesHome_12 : decode cX3_milesHome 12 = .ok (.iadd, 1) := by decide +kernel
theorem dX3_milesHome_13 : decode cX3_milesHome 13 = .ok (.ireturn, 1) := by decide +kernel
theorem dX3_takingsOf_0 : decode cX3_takingsOf 0 = .ok (.iconst 0, 1) := by decide +kernel
theorem dX3_takingsOf_1 : decode cX3_takingsOf 1 = .ok (.istore_n 2, 1) := by decide +kernel
theorem dX3_takingsOf_2 : decode cX3_takingsOf 2 = .ok (.iconst 0, 1) := by decide +kernel
theorem dX3_takingsOf_3 : decode cX3_takingsOf 3 = .ok (.istore_n 3, 1) := by decide +kernel
theorem dX3_takingsOf_4 : decode cX3_takingsOf 4 = .ok (.iload_n 3, 1) := by decide +kernel
theorem dX3_takingsOf_5 : decode cX3_takingsOf 5 = .ok (.aload_n 0, 1) := by decide +kernel
theorem dX3_takingsOf_6 : decode cX3_takingsOf 6 = .ok (.getfield 29, 3) := by decide +kernel
theorem dX3_takingsOf_9 : decode cX3_takingsOf 9 = .ok (.if_icmp .ge 26, 3) := by decide +kernel
theorem dX3_takingsOf_12 : decode cX3_takingsOf 12 = .ok (.iload_n 1, 1) := by decide +kernel
theorem dX3_takingsOf_13 : decode cX3_takingsOf 13 = .ok (.iload_n 3, 1) := by decide +kernel
theorem dX3_takingsOf_14 : decode cX3_takingsOf 14 = .ok (.invokestatic 37, 3) := by decide +kernel
theorem dX3_takingsOf_17 : decode cX3_takingsOf 17 = .ok (.ifCond .eq 12, 3) := by decide +kernel
theorem dX3_takingsOf_20 : decode cX3_takingsOf 20 = .ok (.iload_n 2, 1) := by decide +kernel
theorem dX3_takingsOf_21 : decode cX3_takingsOf 21 = .ok (.aload_n 0, 1) := by decide +kernel
theorem dX3_takingsOf_22 : decode cX3_takingsOf 22 = .ok (.getfield 18, 3) := by decide +kernel
theorem dX3_takingsOf_25 : decode cX3_takingsOf 25 = .ok (.iload_n 3, 1) := by decide +kernel
theorem dX3_takingsOf_26 : decode cX3_takingsOf 26 = .ok (.iaload, 1) := by decide +kernel
theorem dX3_takingsOf_27 : decode cX3_takingsOf 27 = .ok (.iadd, 1) := by decide +kernel
theorem dX3_takingsOf_28 : decode cX3_takingsOf 28 = .ok (.istore_n 2, 1) := by decide +kernel
theorem dX3_takingsOf_29 : decode cX3_takingsOf 29 = .ok (.iinc 3 1, 3) := by decide +kernel
theorem dX3_takingsOf_32 : decode cX3_takingsOf 32 = .ok (.goto (-28), 3) := by decide +kernel
theorem dX3_takingsOf_35 : decode cX3_takingsOf 35 = .ok (.iload_n 2, 1) := by decide +kernel
theorem dX3_takingsOf_36 : decode cX3_takingsOf 36 = .ok (.ireturn, 1) := by decide +kernel
theorem dX3_bestTour_0 : decode cX3_bestTour 0 = .ok (.iconst 0, 1) := by decide +kernel
theorem dX3_bestTour_1 : decode cX3_bestTour 1 = .ok (.istore_n 2, 1) := by decide +kernel
theorem dX3_bestTour_2 : decode cX3_bestTour 2 = .ok (.iconst 1, 1) := by decide +kernel
theorem dX3_bestTour_3 : decode cX3_bestTour 3 = .ok (.istore_n 3, 1) := by decide +kernel
theorem dX3_bestTour_4 : decode cX3_bestTour 4 = .ok (.iload_n 3, 1) := by decide +kernel
theorem dX3_bestTour_5 : decode cX3_bestTour 5 = .ok (.iconst 1, 1) := by decide +kernel
theorem dX3_bestTour_6 : decode cX3_bestTour 6 = .ok (.aload_n 0, 1) := by decide +kernel
theorem dX3_bestTour_7 : decode cX3_bestTour 7 = .ok (.getfield 29, 3) := by decide +kernel
theorem dX3_bestTour_10 : decode cX3_bestTour 10 = .ok (.ishl, 1) := by decide +kernel
theorem dX3_bestTour_11 : decode cX3_bestTour 11 = .ok (.if_icmp .ge 62, 3) := by decide +kernel
theorem dX3_bestTour_14 : decode cX3_bestTour 14 = .ok (.aload_n 0, 1) := by decide +kernel
theorem dX3_bestTour_15 : decode cX3_bestTour 15 = .ok (.getfield 21, 3) := by decide +kernel
theorem dX3_bestTour_18 : decode cX3_bestTour 18 = .ok (.iload_n 3, 1) := by decide +kernel
theorem dX3_bestTour_19 : decode cX3_bestTour 19 = .ok (.iaload, 1) := by decide +kernel
theorem dX3_bestTour_20 : decode cX3_bestTour 20 = .ok (.iload_n 1, 1) := by decide +kernel
theorem dX3_bestTour_21 : decode cX3_bestTour 21 = .ok (.if_icmp .le 6, 3) := by decide +kernel
theorem dX3_bestTour_24 : decode cX3_bestTour 24 = .ok (.goto 43, 3) := by decide +kernel
theorem dX3_bestTour_27 : decode cX3_bestTour 27 = .ok (.aload_n 0, 1) := by decide +kernel
theorem dX3_bestTour_28 : decode cX3_bestTour 28 = .ok (.iload_n 3, 1) := by decide +kernel
theorem dX3_bestTour_29 : decode cX3_bestTour 29 = .ok (.invokevirtual 54, 3) := by decide +kernel
theorem dX3_bestTour_32 : decode cX3_bestTour 32 = .ok (.aload_n 0, 1) := by decide +kernel
theorem dX3_bestTour_33 : decode cX3_bestTour 33 = .ok (.iload_n 2, 1) := by decide +kernel
theorem dX3_bestTour_34 : decode cX3_bestTour 34 = .ok (.invokevirtual 54, 3) := by decide +kernel
theorem dX3_bestTour_37 : decode cX3_bestTour 37 = .ok (.isub, 1) := by decide +kernel
theorem dX3_bestTour_38 : decode cX3_bestTour 38 = .ok (.istore 4, 2) := by decide +kernel
theorem dX3_bestTour_40 : decode cX3_bestTour 40 = .ok (.iload 4, 2) := by decide +kernel
theorem dX3_bestTour_42 : decode cX3_bestTour 42 = .ok (.ifCond .gt 23, 3) := by decide +kernel
theorem dX3_bestTour_45 : decode cX3_bestTour 45 = .ok (.iload 4, 2) := by decide +kernel
theorem dX3_bestTour_47 : decode cX3_bestTour 47 = .ok (.ifCond .ne 20, 3) := by decide +kernel
theorem dX3_bestTour_50 : decode cX3_bestTour 50 = .ok (.aload_n 0, 1) := by decide +kernel
theorem dX3_bestTour_51 : decode cX3_bestTour 51 = .ok (.getfield 21, 3) := by decide +kernel
theorem dX3_bestTour_54 : decode cX3_bestTour 54 = .ok (.iload_n 3, 1) := by decide +kernel
theorem dX3_bestTour_55 : decode cX3_bestTour 55 = .ok (.iaload, 1) := by decide +kernel
theorem dX3_bestTour_56 : decode cX3_bestTour 56 = .ok (.aload_n 0, 1) := by decide +kernel
theorem dX3_bestTour_57 : decode cX3_bestTour 57 = .ok (.getfield 21, 3) := by decide +kernel
theorem dX3_bestTour_60 : decode cX3_bestTour 60 = .ok (.iload_n 2, 1) := by decide +kernel
theorem dX3_bestTour_61 : decode cX3_bestTour 61 = .ok (.iaload, 1) := by decide +kernel
theorem dX3_bestTour_62 : decode cX3_bestTour 62 = .ok (.if_icmp .ge 5, 3) := by decide +kernel
theorem dX3_bestTour_65 : decode cX3_bestTour 65 = .ok (.iload_n 3, 1) := by decide +kernel
theorem dX3_bestTour_66 : decode cX3_bestTour 66 = .ok (.istore_n 2, 1) := by decide +kernel
theorem dX3_bestTour_67 : decode cX3_bestTour 67 = .ok (.iinc 3 1, 3) := by decide +kernel
theorem dX3_bestTour_70 : decode cX3_bestTour 70 = .ok (.goto (-66), 3) := by decide +kernel
theorem dX3_bestTour_73 : decode cX3_bestTour 73 = .ok (.iload_n 2, 1) := by decide +kernel
theorem dX3_bestTour_74 : decode cX3_bestTour 74 = .ok (.ireturn, 1) := by decide +kernel
theorem dX4_init_0 : decode cX4_init 0 = .ok (.aload_n 0, 1) := by decide +kernel
theorem dX4_init_1 : decode cX4_init 1 = .ok (.invokespecial 3, 3) := by decide +kernel
theorem dX4_init_4 : decode cX4_init 4 = .ok (.aload_n 0, 1) := by decide +kernel
theorem dX4_init_5 : decode cX4_init 5 = .ok (.bipush 6, 2) := by decide +kernel
theorem dX4_init_7 : decode cX4_init 7 = .ok (.newarray .int, 2) := by decide +kernel
theorem dX4_init_9 : decode cX4_init 9 = .ok (.putfield 9, 3) := by decide +kernel
theorem dX4_init_12 : decode cX4_init 12 = .ok (.aload_n 0, 1) := by decide +kernel
theorem dX4_init_13 : decode cX4_init 13 = .ok (.bipush 6, 2) := by decide +kernel
theorem dX4_init_15 : decode cX4_init 15 = .ok (.newarray .int, 2) := by decide +kernel
theorem dX4_init_17 : decode cX4_init 17 = .ok (.putfield 15, 3) := by decide +kernel
theorem dX4_init_20 : decode cX4_init 20 = .ok (.aload_n 0, 1) := by decide +kernel
theorem dX4_init_21 : decode cX4_init 21 = .ok (.bipush 6, 2) := by decide +kernel
theorem dX4_init_23 : decode cX4_init 23 = .ok (.newarray .int, 2) := by decide +kernel
theorem dX4_init_25 : decode cX4_init 25 = .ok (.putfield 18, 3) := by decide +kernel
theorem dX4_init_28 : decode cX4_init 28 = .ok (.aload_n 0, 1) := by decide +kernel
theorem dX4_init_29 : decode cX4_init 29 = .ok (.bipush 64, 2) := by decide +kernel
theorem dX4_init_31 : decode cX4_init 31 = .ok (.newarray .int, 2) := by decide +kernel
theorem dX4_init_33 : decode cX4_init 33 = .ok (.putfield 21, 3) := by decide +kernel
theorem dX4_init_36 : decode cX4_init 36 = .ok (.return_, 1) := by decide +kernel
theorem dX4_addCoat_0 : decode cX4_addCoat 0 = .ok (.aload_n 0, 1) := by decide +kernel
theorem dX4_addCoat_1 : decode cX4_addCoat 1 = .ok (.getfield 9, 3) := by decide +kernel
theorem dX4_addCoat_4 : decode cX4_addCoat 4 = .ok (.aload_n 0, 1) := by decide +kernel
theorem dX4_addCoat_5 : decode cX4_addCoat 5 = .ok (.getfield 24, 3) := by decide +kernel
theorem dX4_addCoat_8 : decode cX4_addCoat 8 = .ok (.iload_n 1, 1) := by decide +kernel
theorem dX4_addCoat_9 : decode cX4_addCoat 9 = .ok (.iastore, 1) := by decide +kernel
theorem dX4_addCoat_10 : decode cX4_addCoat 10 = .ok (.aload_n 0, 1) := by decide +kernel
theorem dX4_addCoat_11 : decode cX4_addCoat 11 = .ok (.getfield 15, 3) := by decide +kernel
theorem dX4_addCoat_14 : decode cX4_addCoat 14 = .ok (.aload_n 0, 1) := by decide +kernel
theorem dX4_addCoat_15 : decode cX4_addCoat 15 = .ok (.getfield 24, 3) := by decide +kernel
theorem dX4_addCoat_18 : decode cX4_addCoat 18 = .ok (.iload_n 2, 1) := by decide +kernel
theorem dX4_addCoat_19 : decode cX4_addCoat 19 = .ok (.iastore, 1) := by decide +kernel
theorem dX4_addCoat_20 : decode cX4_addCoat 20 = .ok (.aload_n 0, 1) := by decide +kernel
theorem dX4_addCoat_21 : decode cX4_addCoat 21 = .ok (.getfield 18, 3) := by decide +kernel
theorem dX4_addCoat_24 : decode cX4_addCoat 24 = .ok (.aload_n 0, 1) := by decide +kernel
theorem dX4_addCoat_25 : decode cX4_addCoat 25 = .ok (.getfield 24, 3) := by decide +kernel
theorem dX4_addCoat_28 : decode cX4_addCoat 28 = .ok (.iload_n 3, 1) := by decide +kernel
theorem dX4_addCoat_29 : decode cX4_addCoat 29 = .ok (.iastore, 1) := by decide +kernel
theorem dX4_addCoat_30 : decode cX4_addCoat 30 = .ok (.aload_n 0, 1) := by decide +kernel
theorem dX4_addCoat_31 : decode cX4_addCoat 31 = .ok (.dup, 1) := by decide +kernel
theorem dX4_addCoat_32 : decode cX4_addCoat 32 = .ok (.getfield 24, 3) := by decide +kernel
theorem dX4_addCoat_35 : decode cX4_addCoat 35 = .ok (.iconst 1, 1) := by decide +kernel
theorem dX4_addCoat_36 : decode cX4_addCoat 36 = .ok (.iadd, 1) := by decide +kernel
theorem dX4_addCoat_37 : decode cX4_addCoat 37 = .ok (.putfield 24, 3) := by decide +kernel
theorem dX4_addCoat_40 : decode cX4_addCoat 40 = .ok (.aload_n 0, 1) := by decide +kernel
theorem dX4_addCoat_41 : decode cX4_addCoat 41 = .ok (.getfield 24, 3) := by decide +kernel
theorem dX4_addCoat_44 : decode cX4_addCoat 44 = .ok (.iconst 1, 1) := by decide +kernel
theorem dX4_addCoat_45 : decode cX4_addCoat 45 = .ok (.isub, 1) := by decide +kernel
theorem dX4_addCoat_46 : decode cX4_addCoat 46 = .ok (.ireturn, 1) := by decide +kernel
theorem dX4_startDressing_0 : decode cX4_startDressing 0 = .ok (.iconst 0, 1) := by decide +kernel
theorem dX4_startDressing_1 : decode cX4_startDressing 1 = .ok (.istore_n 1, 1) := by decide +kernel
theorem dX4_startDressing_2 : decode cX4_startDressing 2 = .ok (.iload_n 1, 1) := by decide +kernel
theorem dX4_startDressing_3 : decode cX4_startDressing 3 = .ok (.aload_n 0, 1) := by decide +kernel
theorem dX4_startDressing_4 : decode cX4_startDressing 4 = .ok (.getfield 21, 3) := by decide +kernel
theorem dX4_startDressing_7 : decode cX4_startDressing 7 = .ok (.arraylength, 1) := by decide +kernel
theorem dX4_startDressing_8 : decode cX4_startDressing 8 = .ok (.if_icmp .ge 16, 3) := by decide +kernel
theorem dX4_startDressing_11 : decode cX4_startDressing 11 = .ok (.aload_n 0, 1) := by decide +kernel
theorem dX4_startDressing_12 : decode cX4_startDressing 12 = .ok (.getfield 21, 3) := by decide +kernel
theorem dX4_startDressing_15 : decode cX4_startDressing 15 = .ok (.iload_n 1, 1) := by decide +kernel
theorem dX4_startDressing_16 : decode cX4_startDressing 16 = .ok (.iconst (-1), 1) := by decide +kernel
theorem dX4_startDressing_17 : decode cX4_startDressing 17 = .ok (.iastore, 1) := by decide +kernel
theorem dX4_startDressing_18 : decode cX4_startDressing 18 = .ok (.iinc 1 1, 3) := by decide +kernel
theorem dX4_startDressing_21 : decode cX4_startDressing 21 = .ok (.goto (-19), 3) := by decide +kernel
theorem dX4_startDressing_24 : decode cX4_startDressing 24 = .ok (.aload_n 0, 1) := by decide +kernel
theorem dX4_startDressing_25 : decode cX4_startDressing 25 = .ok (.getfield 21, 3) := by decide +kernel
theorem dX4_startDressing_28 : decode cX4_startDressing 28 = .ok (.iconst 0, 1) := by decide +kernel
theorem dX4_startDressing_29 : decode cX4_startDressing 29 = .ok (.iconst 0, 1) := by decide +kernel
theorem dX4_startDressing_30 : decode cX4_startDressing 30 = .ok (.iastore, 1) := by decide +kernel
theorem dX4_startDressing_31 : decode cX4_startDressing 31 = .ok (.aload_n 0, 1) := by decide +kernel
theorem dX4_startDressing_32 : decode cX4_startDressing 32 = .ok (.iconst 0, 1) := by decide +kernel
theorem dX4_startDressing_33 : decode cX4_startDressing 33 = .ok (.putfield 28, 3) := by decide +kernel
theorem dX4_startDressing_36 : decode cX4_startDressing 36 = .ok (.return_, 1) := by decide +kernel
theorem dX4_dressOneMore_0 : decode cX4_dressOneMore 0 = .ok (.iconst 0, 1) := by decide +kernel
theorem dX4_dressOneMore_1 : decode cX4_dressOneMore 1 = .ok (.istore_n 3, 1) := by decide +kernel
theorem dX4_dressOneMore_2 : decode cX4_dressOneMore 2 = .ok (.iload_n 3, 1) := by decide +kernel
theorem dX4_dressOneMore_3 : decode cX4_dressOneMore 3 = .ok (.iconst 1, 1) := by decide +kernel
theorem dX4_dressOneMore_4 : decode cX4_dressOneMore 4 = .ok (.aload_n 0, 1) := by decide +kernel
theorem dX4_dressOneMore_5 : decode cX4_dressOneMore 5 = .ok (.getfield 24, 3) := by decide +kernel
theorem dX4_dressOneMore_8 : decode cX4_dressOneMore 8 = .ok (.ishl, 1) := by decide +kernel
theorem dX4_dressOneMore_9 : decode cX4_dressOneMore 9 = .ok (.if_icmp .ge 95, 3) := by decide +kernel
theorem dX4_dressOneMore_12 : decode cX4_dressOneMore 12 = .ok (.iload_n 3, 1) := by decide +kernel
theorem dX4_dressOneMore_13 : decode cX4_dressOneMore 13 = .ok (.invokestatic 31, 3) := by decide +kernel
theorem dX4_dressOneMore_16 : decode cX4_dressOneMore 16 = .ok (.aload_n 0, 1) := by decide +kernel
theorem dX4_dressOneMore_17 : decode cX4_dressOneMore 17 = .ok (.getfield 28, 3) := by decide +kernel
theorem dX4_dressOneMore_20 : decode cX4_dressOneMore 20 = .ok (.if_icmp .ne 78, 3) := by decide +kernel
theorem dX4_dressOneMore_23 : decode cX4_dressOneMore 23 = .ok (.aload_n 0, 1) := by decide +kernel
theorem dX4_dressOneMore_24 : decode cX4_dressOneMore 24 = .ok (.getfield 21, 3) := by decide +kernel
theorem dX4_dressOneMore_27 : decode cX4_dressOneMore 27 = .ok (.iload_n 3, 1) := by decide +kernel
theorem dX4_dressOneMore_28 : decode cX4_dressOneMore 28 = .ok (.iaload, 1) := by decide +kernel
theorem dX4_dressOneMore_29 : decode cX4_dressOneMore 29 = .ok (.iconst (-1), 1) := by decide +kernel
theorem dX4_dressOneMore_30 : decode cX4_dressOneMore 30 = .ok (.if_icmp .ne 6, 3) := by decide +kernel
theorem dX4_dressOneMore_33 : decode cX4_dressOneMore 33 = .ok (.goto 65, 3) := by decide +kernel
theorem dX4_dressOneMore_36 : decode cX4_dressOneMore 36 = .ok (.iconst 0, 1) := by decide +kernel
theorem dX4_dressOneMore_37 : decode cX4_dressOneMore 37 = .ok (.istore 4, 2) := by decide +kernel
theorem dX4_dressOneMore_39 : decode cX4_dressOneMore 39 = .ok (.iload 4, 2) := by decide +kernel
theorem dX4_dressOneMore_41 : decode cX4_dressOneMore 41 = .ok (.aload_n 0, 1) := by decide +kernel
theorem dX4_dressOneMore_42 : decode cX4_dressOneMore 42 = .ok (.getfield 24, 3) := by decide +kernel
theorem dX4_dressOneMore_45 : decode cX4_dressOneMore 45 = .ok (.if_icmp .ge 53, 3) := by decide +kernel
theorem dX4_dressOneMore_48 : decode cX4_dressOneMore 48 = .ok (.aload_n 0, 1) := by decide +kernel
theorem dX4_dressOneMore_49 : decode cX4_dressOneMore 49 = .ok (.iload 4, 2) := by decide +kernel
theorem dX4_dressOneMore_51 : decode cX4_dressOneMore 51 = .ok (.iload_n 1, 1) := by decide +kernel
theorem dX4_dressOneMore_52 : decode cX4_dressOneMore 52 = .ok (.iload_n 2, 1) := by decide +kernel
theorem dX4_dressOneMore_53 : decode cX4_dressOneMore 53 = .ok (.invokevirtual 37, 3) := by decide +kernel
theorem dX4_dressOneMore_56 : decode cX4_dressOneMore 56 = .ok (.istore 5, 2) := by decide +kernel
theorem dX4_dressOneMore_58 : decode cX4_dressOneMore 58 = .ok (.iload 5, 2) := by decide +kernel
theorem dX4_dressOneMore_60 : decode cX4_dressOneMore 60 = .ok (.iconst (-1), 1) := by decide +kernel
theorem dX4_dressOneMore_61 : decode cX4_dressOneMore 61 = .ok (.if_icmp .eq 31, 3) := by decide +kernel
theorem dX4_dressOneMore_64 : decode cX4_dressOneMore 64 = .ok (.iload_n 3, 1) := by decide +kernel
theorem dX4_dressOneMore_65 : decode cX4_dressOneMore 65 = .ok (.iload 4, 2) := by decide +kernel
theorem dX4_dressOneMore_67 : decode cX4_dressOneMore 67 = .ok (.invokestatic 41, 3) := by decide +kernel
theorem dX4_dressOneMore_70 : decode cX4_dressOneMore 70 = .ok (.ifCond .ne 22, 3) := by decide +kernel
theorem dX4_dressOneMore_73 : decode cX4_dressOneMore 73 = .ok (.aload_n 0, 1) := by decide +kernel
theorem dX4_dressOneMore_74 : decode cX4_dressOneMore 74 = .ok (.iload_n 3, 1) := by decide +kernel
theorem dX4_dressOneMore_75 : decode cX4_dressOneMore 75 = .ok (.iconst 1, 1) := by decide +kernel
theorem dX4_dressOneMore_76 : decode cX4_dressOneMore 76 = .ok (.iload 4, 2) := by decide +kernel
theorem dX4_dressOneMore_78 : decode cX4_dressOneMore 78 = .ok (.ishl, 1) := by decide +kernel
theorem dX4_dressOneMore_79 : decode cX4_dressOneMore 79 = .ok (.ior, 1) := by decide +kernel
theorem dX4_dressOneMore_80 : decode cX4_dressOneMore 80 = .ok (.aload_n 0, 1) := by decide +kernel
theorem dX4_dressOneMore_81 : decode cX4_dressOneMore 81 = .ok (.getfield 21, 3) := by decide +kernel
theorem dX4_dressOneMore_84 : decode cX4_dressOneMore 84 = .ok (.iload_n 3, 1) := by decide +kernel
theorem dX4_dressOneMore_85 : decode cX4_dressOneMore 85 = .ok (.iaload, 1) := by decide +kernel
theorem dX4_dressOneMore_86 : decode cX4_dressOneMore 86 = .ok (.iload 5, 2) := by decide +kernel
theorem dX4_dressOneMore_88 : decode cX4_dressOneMore 88 = .ok (.iadd, 1) := by decide +kernel
theorem dX4_dressOneMore_89 : decode cX4_dressOneMore 89 = .ok (.invokevirtual 45, 3) := by decide +kernel
theorem dX4_dressOneMore_92 : decode cX4_dressOneMore 92 = .ok (.iinc 4 1, 3) := by decide +kernel
theorem dX4_dressOneMore_95 : decode cX4_dressOneMore 95 = .ok (.goto (-56), 3) := by decide +kernel
theorem dX4_dressOneMore_98 : decode cX4_dressOneMore 98 = .ok (.iinc 3 1, 3) := by decide +kernel
theorem dX4_dressOneMore_101 : decode cX4_dressOneMore 101 = .ok (.goto (-99), 3) := by decide +kernel
theorem dX4_dressOneMore_104 : decode cX4_dressOneMore 104 = .ok (.aload_n 0, 1) := by decide +kernel
theorem dX4_dressOneMore_105 : decode cX4_dressOneMore 105 = .ok (.dup, 1) := by decide +kernel
theorem dX4_dressOneMore_106 : decode cX4_dressOneMore 106 = .ok (.getfield 28, 3) := by decide +kernel
theorem dX4_dressOneMore_109 : decode cX4_dressOneMore 109 = .ok (.iconst 1, 1) := by decide +kernel
theorem dX4_dressOneMore_110 : decode cX4_dressOneMore 110 = .ok (.iadd, 1) := by decide +kernel
theorem dX4_dressOneMore_111 : decode cX4_dressOneMore 111 = .ok (.putfield 28, 3) := by decide +kernel
theorem dX4_dressOneMore_114 : decode cX4_dressOneMore 114 = .ok (.return_, 1) := by decide +kernel
theorem dX4_leastWaste_0 : decode cX4_leastWaste 0 = .ok (.iconst (-1), 1) := by decide +kernel
theorem dX4_leastWaste_1 : decode cX4_leastWaste 1 = .ok (.istore_n 1, 1) := by decide +kernel
theorem dX4_leastWaste_2 : decode cX4_leastWaste 2 = .ok (.iconst 0, 1) := by decide +kernel
theorem dX4_leastWaste_3 : decode cX4_leastWaste 3 = .ok (.istore_n 2, 1) := by decide +kernel
theorem dX4_leastWaste_4 : decode cX4_leastWaste 4 = .ok (.iload_n 2, 1) := by decide +kernel
theorem dX4_leastWaste_5 : decode cX4_leastWaste 5 = .ok (.iconst 1, 1) := by decide +kernel
theorem dX4_leastWaste_6 : decode cX4_leastWaste 6 = .ok (.aload_n 0, 1) := by decide +kernel
theorem dX4_leastWaste_7 : decode cX4_leastWaste 7 = .ok (.getfield 24, 3) := by decide +kernel
theorem dX4_leastWaste_10 : decode cX4_leastWaste 10 = .ok (.ishl, 1) := by decide +kernel
theorem dX4_leastWaste_11 : decode cX4_leastWaste 11 = .ok (.if_icmp .ge 52, 3) := by decide +kernel
theorem dX4_leastWaste_14 : decode cX4_leastWaste 14 = .ok (.iload_n 2, 1) := by decide +kernel
theorem dX4_leastWaste_15 : decode cX4_leastWaste 15 = .ok (.invokestatic 31, 3) := by decide +kernel
theorem dX4_leastWaste_18 : decode cX4_leastWaste 18 = .ok (.aload_n 0, 1) := by decide +kernel
theorem dX4_leastWaste_19 : decode cX4_leastWaste 19 = .ok (.getfield 28, 3) := by decide +kernel
theorem dX4_leastWaste_22 : decode cX4_leastWaste 22 = .ok (.if_icmp .ne 35, 3) := by decide +kernel
theorem dX4_leastWaste_25 : decode cX4_leastWaste 25 = .ok (.aload_n 0, 1) := by decide +kernel
theorem dX4_leastWaste_26 : decode cX4_leastWaste 26 = .ok (.getfield 21, 3) := by decide +kernel
theorem dX4_leastWaste_29 : decode cX4_leastWaste 29 = .ok (.iload_n 2, 1) := by decide +kernel
theorem dX4_leastWaste_30 : decode cX4_leastWaste 30 = .ok (.iaload, 1) := by decide +kernel
theorem dX4_leastWaste_31 : decode cX4_leastWaste 31 = .ok (.iconst (-1), 1) := by decide +kernel
theorem dX4_leastWaste_32 : decode cX4_leastWaste 32 = .ok (.if_icmp .eq 25, 3) := by decide +kernel
theorem dX4_leastWaste_35 : decode cX4_leastWaste 35 = .ok (.iload_n 1, 1) := by decide +kernel
theorem dX4_leastWaste_36 : decode cX4_leastWaste 36 = .ok (.iconst (-1), 1) := by decide +kernel
theorem dX4_leastWaste_37 : decode cX4_leastWaste 37 = .ok (.if_icmp .eq 13, 3) := by decide +kernel
theorem dX4_leastWaste_40 : decode cX4_leastWaste 40 = .ok (.aload_n 0, 1) := by decide +kernel
theorem dX4_leastWaste_41 : decode cX4_leastWaste 41 = .ok (.getfield 21, 3) := by decide +kernel
theorem dX4_leastWaste_44 : decode cX4_leastWaste 44 = .ok (.iload_n 2, 1) := by decide +kernel
theorem dX4_leastWaste_45 : decode cX4_leastWaste 45 = .ok (.iaload, 1) := by decide +kernel
theorem dX4_leastWaste_46 : decode cX4_leastWaste 46 = .ok (.iload_n 1, 1) := by decide +kernel
theorem dX4_leastWaste_47 : decode cX4_leastWaste 47 = .ok (.if_icmp .ge 10, 3) := by decide +kernel
theorem dX4_leastWaste_50 : decode cX4_leastWaste 50 = .ok (.aload_n 0, 1) := by decide +kernel
theorem dX4_leastWaste_51 : decode cX4_leastWaste 51 = .ok (.getfield 21, 3) := by decide +kernel
theorem dX4_leastWaste_54 : decode cX4_leastWaste 54 = .ok (.iload_n 2, 1) := by decide +kernel
theorem dX4_leastWaste_55 : decode cX4_leastWaste 55 = .ok (.iaload, 1) := by decide +kernel
theorem dX4_leastWaste_56 : decode cX4_leastWaste 56 = .ok (.istore_n 1, 1) := by decide +kernel
theorem dX4_leastWaste_57 : decode cX4_leastWaste 57 = .ok (.iinc 2 1, 3) := by decide +kernel
theorem dX4_leastWaste_60 : decode cX4_leastWaste 60 = .ok (.goto (-56), 3) := by decide +kernel
theorem dX4_leastWaste_63 : decode cX4_leastWaste 63 = .ok (.iload_n 1, 1) := by decide +kernel
theorem dX4_leastWaste_64 : decode cX4_leastWaste 64 = .ok (.ireturn, 1) := by decide +kernel
theorem dX4_keepLess_0 : decode cX4_keepLess 0 = .ok (.aload_n 0, 1) := by decide +kernel
theorem dX4_keepLess_1 : decode cX4_keepLess 1 = .ok (.getfield 21, 3) := by decide +kernel
theorem dX4_keepLess_4 : decode cX4_keepLess 4 = .ok (.iload_n 1, 1) := by decide +kernel
theorem dX4_keepLess_5 : decode cX4_keepLess 5 = .ok (.iaload, 1) := by decide +kernel
theorem dX4_keepLess_6 : decode cX4_keepLess 6 = .ok (.iconst (-1), 1) := by decide +kernel
theorem dX4_keepLess_7 : decode cX4_keepLess 7 = .ok (.if_icmp .eq 13, 3) := by decide +kernel
theorem dX4_keepLess_10 : decode cX4_keepLess 10 = .ok (.iload_n 2, 1) := by decide +kernel
theorem dX4_keepLess_11 : decode cX4_keepLess 11 = .ok (.aload_n 0, 1) := by decide +kernel
theorem dX4_keepLess_12 : decode cX4_keepLess 12 = .ok (.getfield 21, 3) := by decide +kernel
theorem dX4_keepLess_15 : decode cX4_keepLess 15 = .ok (.iload_n 1, 1) := by decide +kernel
theorem dX4_keepLess_16 : decode cX4_keepLess 16 = .ok (.iaload, 1) := by decide +kernel
theorem dX4_keepLess_17 : decode cX4_keepLess 17 = .ok (.if_icmp .ge 10, 3) := by decide +kernel
theorem dX4_keepLess_20 : decode cX4_keepLess 20 = .ok (.aload_n 0, 1) := by decide +kernel
theorem dX4_keepLess_21 : decode cX4_keepLess 21 = .ok (.getfield 21, 3) := by decide +kernel
theorem dX4_keepLess_24 : decode cX4_keepLess 24 = .ok (.iload_n 1, 1) := by decide +kernel
theorem dX4_keepLess_25 : decode cX4_keepLess 25 = .ok (.iload_n 2, 1) := by decide +kernel
theorem dX4_keepLess_26 : decode cX4_keepLess 26 = .ok (.iastore, 1) := by decide +kernel
theorem dX4_keepLess_27 : decode cX4_keepLess 27 = .ok (.return_, 1) := by decide +kernel
theorem dX4_wasteOf_0 : decode cX4_wasteOf 0 = .ok (.aload_n 0, 1) := by decide +kernel
theorem dX4_wasteOf_1 : decode cX4_wasteOf 1 = .ok (.getfield 15, 3) := by decide +kernel
theorem dX4_wasteOf_4 : decode cX4_wasteOf 4 = .ok (.iload_n 1, 1) := by decide +kernel
theorem dX4_wasteOf_5 : decode cX4_wasteOf 5 = .ok (.iaload, 1) := by decide +kernel
theorem dX4_wasteOf_6 : decode cX4_wasteOf 6 = .ok (.iload_n 3, 1) := by decide +kernel
theorem dX4_wasteOf_7 : decode cX4_wasteOf 7 = .ok (.isub, 1) := by decide +kernel
theorem dX4_wasteOf_8 : decode cX4_wasteOf 8 = .ok (.invokestatic 49, 3) := by decide +kernel
theorem dX4_wasteOf_11 : decode cX4_wasteOf 11 = .ok (.istore 4, 2) := by decide +kernel
theorem dX4_wasteOf_13 : decode cX4_wasteOf 13 = .ok (.aload_n 0, 1) := by decide +kernel
theorem dX4_wasteOf_14 : decode cX4_wasteOf 14 = .ok (.getfield 54, 3) := by decide +kernel
theorem dX4_wasteOf_17 : decode cX4_wasteOf 17 = .ok (.iload_n 1, 1) := by decide +kernel
theorem dX4_wasteOf_18 : decode cX4_wasteOf 18 = .ok (.invokestatic 41, 3) := by decide +kernel
theorem dX4_wasteOf_21 : decode cX4_wasteOf 21 = .ok (.ifCond .ne 19, 3) := by decide +kernel
theorem dX4_wasteOf_24 : decode cX4_wasteOf 24 = .ok (.aload_n 0, 1) := by decide +kernel
theorem dX4_wasteOf_25 : decode cX4_wasteOf 25 = .ok (.getfield 9, 3) := by decide +kernel
theorem dX4_wasteOf_28 : decode cX4_wasteOf 28 = .ok (.iload_n 1, 1) := by decide +kernel
theorem dX4_wasteOf_29 : decode cX4_wasteOf 29 = .ok (.iaload, 1) := by decide +kernel
theorem dX4_wasteOf_30 : decode cX4_wasteOf 30 = .ok (.iload_n 2, 1) := by decide +kernel
theorem dX4_wasteOf_31 : decode cX4_wasteOf 31 = .ok (.if_icmp .lt 9, 3) := by decide +kernel
theorem dX4_wasteOf_34 : decode cX4_wasteOf 34 = .ok (.iload 4, 2) := by decide +kernel
theorem dX4_wasteOf_36 : decode cX4_wasteOf 36 = .ok (.iconst 2, 1) := by decide +kernel
theorem dX4_wasteOf_37 : decode cX4_wasteOf 37 = .ok (.if_icmp .le 5, 3) := by decide +kernel
theorem dX4_wasteOf_40 : decode cX4_wasteOf 40 = .ok (.iconst (-1), 1) := by decide +kernel
theorem dX4_wasteOf_41 : decode cX4_wasteOf 41 = .ok (.ireturn, 1) := by decide +kernel
theorem dX4_wasteOf_42 : decode cX4_wasteOf 42 = .ok (.aload_n 0, 1) := by decide +kernel
theorem dX4_wasteOf_43 : decode cX4_wasteOf 43 = .ok (.getfield 9, 3) := by decide +kernel
theorem dX4_wasteOf_46 : decode cX4_wasteOf 46 = .ok (.iload_n 1, 1) := by decide +kernel
theorem dX4_wasteOf_47 : decode cX4_wasteOf 47 = .ok (.iaload, 1) := by decide +kernel
theorem dX4_wasteOf_48 : decode cX4_wasteOf 48 = .ok (.iload_n 2, 1) := by decide +kernel
theorem dX4_wasteOf_49 : decode cX4_wasteOf 49 = .ok (.isub, 1) := by decide +kernel
theorem dX4_wasteOf_50 : decode cX4_wasteOf 50 = .ok (.iload 4, 2) := by decide +kernel
theorem dX4_wasteOf_52 : decode cX4_wasteOf 52 = .ok (.iadd, 1) := by decide +kernel
theorem dX4_wasteOf_53 : decode cX4_wasteOf 53 = .ok (.ireturn, 1) := by decide +kernel
