theorem dX0_init_0 : decode cX0_init 0 = .ok (.aload_n 0, 1) := by decide +kernel
theorem dX0_init_1 : decode cX0_init 1 = .ok (.invokespecial 3, 3) := by decide +kernel
theorem dX0_init_4 : decode cX0_init 4 = .ok (.aload_n 0, 1) := by decide +kernel
theorem dX0_init_5 : decode cX0_init 5 = .ok (.new 9, 3) := by decide +kernel
theorem dX0_init_8 : decode cX0_init 8 = .ok (.dup, 1) := by decide +kernel
theorem dX0_init_9 : decode cX0_init 9 = .ok (.invokespecial 11, 3) := by decide +kernel
theorem dX0_init_12 : decode cX0_init 12 = .ok (.putfield 12, 3) := by decide +kernel
theorem dX0_init_15 : decode cX0_init 15 = .ok (.return_, 1) := by decide +kernel
theorem dX0_takeDown_0 : decode cX0_takeDown 0 = .ok (.aload_n 0, 1) := by decide +kernel
theorem dX0_takeDown_1 : decode cX0_takeDown 1 = .ok (.iconst 0, 1) := by decide +kernel
theorem dX0_takeDown_2 : decode cX0_takeDown 2 = .ok (.putfield 18, 3) := by decide +kernel
theorem dX0_takeDown_5 : decode cX0_takeDown 5 = .ok (.iconst 1, 1) := by decide +kernel
theorem dX0_takeDown_6 : decode cX0_takeDown 6 = .ok (.istore_n 2, 1) := by decide +kernel
theorem dX0_takeDown_7 : decode cX0_takeDown 7 = .ok (.iload_n 2, 1) := by decide +kernel
theorem dX0_takeDown_8 : decode cX0_takeDown 8 = .ok (.bipush 120, 2) := by decide +kernel
theorem dX0_takeDown_10 : decode cX0_takeDown 10 = .ok (.if_icmp .gt 52, 3) := by decide +kernel
theorem dX0_takeDown_13 : decode cX0_takeDown 13 = .ok (.aload_n 0, 1) := by decide +kernel
theorem dX0_takeDown_14 : decode cX0_takeDown 14 = .ok (.invokevirtual 22, 3) := by decide +kernel
theorem dX0_takeDown_17 : decode cX0_takeDown 17 = .ok (.aload_n 0, 1) := by decide +kernel
theorem dX0_takeDown_18 : decode cX0_takeDown 18 = .ok (.aload_n 1, 1) := by decide +kernel
theorem dX0_takeDown_19 : decode cX0_takeDown 19 = .ok (.invokevirtual 25, 3) := by decide +kernel
theorem dX0_takeDown_22 : decode cX0_takeDown 22 = .ok (.ifCond .ne 10, 3) := by decide +kernel
theorem dX0_takeDown_25 : decode cX0_takeDown 25 = .ok (.iconst (-1), 1) := by decide +kernel
theorem dX0_takeDown_26 : decode cX0_takeDown 26 = .ok (.aload_n 0, 1) := by decide +kernel
theorem dX0_takeDown_27 : decode cX0_takeDown 27 = .ok (.getfield 29, 3) := by decide +kernel
theorem dX0_takeDown_30 : decode cX0_takeDown 30 = .ok (.isub, 1) := by decide +kernel
theorem dX0_takeDown_31 : decode cX0_takeDown 31 = .ok (.ireturn, 1) := by decide +kernel
theorem dX0_takeDown_32 : decode cX0_takeDown 32 = .ok (.aload_n 0, 1) := by decide +kernel
theorem dX0_takeDown_33 : decode cX0_takeDown 33 = .ok (.getfield 32, 3) := by decide +kernel
theorem dX0_takeDown_36 : decode cX0_takeDown 36 = .ok (.ifCond .ne 5, 3) := by decide +kernel
theorem dX0_takeDown_39 : decode cX0_takeDown 39 = .ok (.iload_n 2, 1) := by decide +kernel
theorem dX0_takeDown_40 : decode cX0_takeDown 40 = .ok (.ireturn, 1) := by decide +kernel
theorem dX0_takeDown_41 : decode cX0_takeDown 41 = .ok (.aload_n 0, 1) := by decide +kernel
theorem dX0_takeDown_42 : decode cX0_takeDown 42 = .ok (.getfield 32, 3) := by decide +kernel
theorem dX0_takeDown_45 : decode cX0_takeDown 45 = .ok (.iconst 3, 1) := by decide +kernel
theorem dX0_takeDown_46 : decode cX0_takeDown 46 = .ok (.if_icmp .eq 10, 3) := by decide +kernel
theorem dX0_takeDown_49 : decode cX0_takeDown 49 = .ok (.iconst (-1), 1) := by decide +kernel
theorem dX0_takeDown_50 : decode cX0_takeDown 50 = .ok (.aload_n 0, 1) := by decide +kernel
theorem dX0_takeDown_51 : decode cX0_takeDown 51 = .ok (.getfield 29, 3) := by decide +kernel
theorem dX0_takeDown_54 : decode cX0_takeDown 54 = .ok (.isub, 1) := by decide +kernel
theorem dX0_takeDown_55 : decode cX0_takeDown 55 = .ok (.ireturn, 1) := by decide +kernel
theorem dX0_takeDown_56 : decode cX0_takeDown 56 = .ok (.iinc 2 1, 3) := by decide +kernel
theorem dX0_takeDown_59 : decode cX0_takeDown 59 = .ok (.goto (-52), 3) := by decide +kernel
theorem dX0_takeDown_62 : decode cX0_takeDown 62 = .ok (.iconst (-1), 1) := by decide +kernel
theorem dX0_takeDown_63 : decode cX0_takeDown 63 = .ok (.aload_n 0, 1) := by decide +kernel
theorem dX0_takeDown_64 : decode cX0_takeDown 64 = .ok (.getfield 12, 3) := by decide +kernel
theorem dX0_takeDown_67 : decode cX0_takeDown 67 = .ok (.getfield 35, 3) := by decide +kernel
theorem dX0_takeDown_70 : decode cX0_takeDown 70 = .ok (.isub, 1) := by decide +kernel
theorem dX0_takeDown_71 : decode cX0_takeDown 71 = .ok (.ireturn, 1) := by decide +kernel
theorem dX0_item_0 : decode cX0_item 0 = .ok (.aload_n 0, 1) := by decide +kernel
theorem dX0_item_1 : decode cX0_item 1 = .ok (.invokevirtual 38, 3) := by decide +kernel
theorem dX0_item_4 : decode cX0_item 4 = .ok (.istore_n 2, 1) := by decide +kernel
theorem dX0_item_5 : decode cX0_item 5 = .ok (.iload_n 2, 1) := by decide +kernel
theorem dX0_item_6 : decode cX0_item 6 = .ok (.ifCond .lt 10, 3) := by decide +kernel
theorem dX0_item_9 : decode cX0_item 9 = .ok (.aload_n 0, 1) := by decide +kernel
theorem dX0_item_10 : decode cX0_item 10 = .ok (.aload_n 1, 1) := by decide +kernel
theorem dX0_item_11 : decode cX0_item 11 = .ok (.iload_n 2, 1) := by decide +kernel
theorem dX0_item_12 : decode cX0_item 12 = .ok (.invokevirtual 42, 3) := by decide +kernel
theorem dX0_item_15 : decode cX0_item 15 = .ok (.ireturn, 1) := by decide +kernel
theorem dX0_item_16 : decode cX0_item 16 = .ok (.aload_n 0, 1) := by decide +kernel
theorem dX0_item_17 : decode cX0_item 17 = .ok (.ldc 46, 2) := by decide +kernel
theorem dX0_item_19 : decode cX0_item 19 = .ok (.invokevirtual 48, 3) := by decide +kernel
theorem dX0_item_22 : decode cX0_item 22 = .ok (.ifCond .eq 9, 3) := by decide +kernel
theorem dX0_item_25 : decode cX0_item 25 = .ok (.aload_n 0, 1) := by decide +kernel
theorem dX0_item_26 : decode cX0_item 26 = .ok (.aload_n 1, 1) := by decide +kernel
theorem dX0_item_27 : decode cX0_item 27 = .ok (.invokevirtual 52, 3) := by decide +kernel
theorem dX0_item_30 : decode cX0_item 30 = .ok (.ireturn, 1) := by decide +kernel
theorem dX0_item_31 : decode cX0_item 31 = .ok (.aload_n 0, 1) := by decide +kernel
theorem dX0_item_32 : decode cX0_item 32 = .ok (.ldc 55, 2) := by decide +kernel
theorem dX0_item_34 : decode cX0_item 34 = .ok (.invokevirtual 48, 3) := by decide +kernel
theorem dX0_item_37 : decode cX0_item 37 = .ok (.ifCond .eq 9, 3) := by decide +kernel
theorem dX0_item_40 : decode cX0_item 40 = .ok (.aload_n 0, 1) := by decide +kernel
theorem dX0_item_41 : decode cX0_item 41 = .ok (.aload_n 1, 1) := by decide +kernel
theorem dX0_item_42 : decode cX0_item 42 = .ok (.invokevirtual 57, 3) := by decide +kernel
theorem dX0_item_45 : decode cX0_item 45 = .ok (.ireturn, 1) := by decide +kernel
theorem dX0_item_46 : decode cX0_item 46 = .ok (.aload_n 0, 1) := by decide +kernel
theorem dX0_item_47 : decode cX0_item 47 = .ok (.ldc 60, 2) := by decide +kernel
theorem dX0_item_49 : decode cX0_item 49 = .ok (.invokevirtual 48, 3) := by decide +kernel
theorem dX0_item_52 : decode cX0_item 52 = .ok (.ifCond .eq 9, 3) := by decide +kernel
theorem dX0_item_55 : decode cX0_item 55 = .ok (.aload_n 0, 1) := by decide +kernel
theorem dX0_item_56 : decode cX0_item 56 = .ok (.aload_n 1, 1) := by decide +kernel
theorem dX0_item_57 : decode cX0_item 57 = .ok (.invokevirtual 62, 3) := by decide +kernel
theorem dX0_item_60 : decode cX0_item 60 = .ok (.ireturn, 1) := by decide +kernel
theorem dX0_item_61 : decode cX0_item 61 = .ok (.iconst 0, 1) := by decide +kernel
theorem dX0_item_62 : decode cX0_item 62 = .ok (.ireturn, 1) := by decide +kernel
theorem dX0_hatItem_0 : decode cX0_hatItem 0 = .ok (.aload_n 1, 1) := by decide +kernel
theorem dX0_hatItem_1 : decode cX0_hatItem 1 = .ok (.invokevirtual 65, 3) := by decide +kernel
theorem dX0_hatItem_4 : decode cX0_hatItem 4 = .ok (.ifCond .eq 5, 3) := by decide +kernel
theorem dX0_hatItem_7 : decode cX0_hatItem 7 = .ok (.iconst 0, 1) := by decide +kernel
theorem dX0_hatItem_8 : decode cX0_hatItem 8 = .ok (.ireturn, 1) := by decide +kernel
theorem dX0_hatItem_9 : decode cX0_hatItem 9 = .ok (.aload_n 1, 1) := by decide +kernel
theorem dX0_hatItem_10 : decode cX0_hatItem 10 = .ok (.iload_n 2, 1) := by decide +kernel
theorem dX0_hatItem_11 : decode cX0_hatItem 11 = .ok (.iconst 0, 1) := by decide +kernel
theorem dX0_hatItem_12 : decode cX0_hatItem 12 = .ok (.invokevirtual 71, 3) := by decide +kernel
theorem dX0_hatItem_15 : decode cX0_hatItem 15 = .ok (.aload_n 1, 1) := by decide +kernel
theorem dX0_hatItem_16 : decode cX0_hatItem 16 = .ok (.getfield 75, 3) := by decide +kernel
theorem dX0_hatItem_19 : decode cX0_hatItem 19 = .ok (.aload_n 1, 1) := by decide +kernel
theorem dX0_hatItem_20 : decode cX0_hatItem 20 = .ok (.getfield 79, 3) := by decide +kernel
theorem dX0_hatItem_23 : decode cX0_hatItem 23 = .ok (.iconst 1, 1) := by decide +kernel
theorem dX0_hatItem_24 : decode cX0_hatItem 24 = .ok (.isub, 1) := by decide +kernel
theorem dX0_hatItem_25 : decode cX0_hatItem 25 = .ok (.aaload, 1) := by decide +kernel
theorem dX0_hatItem_26 : decode cX0_hatItem 26 = .ok (.astore_n 3, 1) := by decide +kernel
theorem dX0_hatItem_27 : decode cX0_hatItem 27 = .ok (.aload_n 0, 1) := by decide +kernel
theorem dX0_hatItem_28 : decode cX0_hatItem 28 = .ok (.invokevirtual 22, 3) := by decide +kernel
theorem dX0_hatItem_31 : decode cX0_hatItem 31 = .ok (.aload_n 0, 1) := by decide +kernel
theorem dX0_hatItem_32 : decode cX0_hatItem 32 = .ok (.ldc 82, 2) := by decide +kernel
theorem dX0_hatItem_34 : decode cX0_hatItem 34 = .ok (.invokevirtual 48, 3) := by decide +kernel
theorem dX0_hatItem_37 : decode cX0_hatItem 37 = .ok (.ifCond .eq 27, 3) := by decide +kernel
theorem dX0_hatItem_40 : decode cX0_hatItem 40 = .ok (.aload_n 0, 1) := by decide +kernel
theorem dX0_hatItem_41 : decode cX0_hatItem 41 = .ok (.sipush 255, 3) := by decide +kernel
theorem dX0_hatItem_44 : decode cX0_hatItem 44 = .ok (.invokevirtual 84, 3) := by decide +kernel
theorem dX0_hatItem_47 : decode cX0_hatItem 47 = .ok (.ifCond .ne 5, 3) := by decide +kernel
theorem dX0_hatItem_50 : decode cX0_hatItem 50 = .ok (.iconst 0, 1) := by decide +kernel
theorem dX0_hatItem_51 : decode cX0_hatItem 51 = .ok (.ireturn, 1) := by decide +kernel
theorem dX0_hatItem_52 : decode cX0_hatItem 52 = .ok (.aload_n 3, 1) := by decide +kernel
theorem dX0_hatItem_53 : decode cX0_hatItem 53 = .ok (.aload_n 0, 1) := by decide +kernel
theorem dX0_hatItem_54 : decode cX0_hatItem 54 = .ok (.getfield 88, 3) := by decide +kernel
theorem dX0_hatItem_57 : decode cX0_hatItem 57 = .ok (.putfield 91, 3) := by decide +kernel
theorem dX0_hatItem_60 : decode cX0_hatItem 60 = .ok (.aload_n 0, 1) := by decide +kernel
theorem dX0_hatItem_61 : decode cX0_hatItem 61 = .ok (.invokevirtual 22, 3) := by decide +kernel
theorem dX0_hatItem_64 : decode cX0_hatItem 64 = .ok (.aload_n 0, 1) := by decide +kernel
theorem dX0_hatItem_65 : decode cX0_hatItem 65 = .ok (.ldc 95, 2) := by decide +kernel
theorem dX0_hatItem_67 : decode cX0_hatItem 67 = .ok (.invokevirtual 48, 3) := by decide +kernel
theorem dX0_hatItem_70 : decode cX0_hatItem 70 = .ok (.ifCond .eq 26, 3) := by decide +kernel
theorem dX0_hatItem_73 : decode cX0_hatItem 73 = .ok (.aload_n 0, 1) := by decide +kernel
theorem dX0_hatItem_74 : decode cX0_hatItem 74 = .ok (.bipush 99, 2) := by decide +kernel
theorem dX0_hatItem_76 : decode cX0_hatItem 76 = .ok (.invokevirtual 84, 3) := by decide +kernel
theorem dX0_hatItem_79 : decode cX0_hatItem 79 = .ok (.ifCond .ne 5, 3) := by decide +kernel
theorem dX0_hatItem_82 : decode cX0_hatItem 82 = .ok (.iconst 0, 1) := by decide +kernel
theorem dX0_hatItem_83 : decode cX0_hatItem 83 = .ok (.ireturn, 1) := by decide +kernel
theorem dX0_hatItem_84 : decode cX0_hatItem 84 = .ok (.aload_n 3, 1) := by decide +kernel
theorem dX0_hatItem_85 : decode cX0_hatItem 85 = .ok (.aload_n 0, 1) := by decide +kernel
theorem dX0_hatItem_86 : decode cX0_hatItem 86 = .ok (.getfield 88, 3) := by decide +kernel
theorem dX0_hatItem_89 : decode cX0_hatItem 89 = .ok (.putfield 97, 3) := by decide +kernel
theorem dX0_hatItem_92 : decode cX0_hatItem 92 = .ok (.aload_n 0, 1) := by decide +kernel
theorem dX0_hatItem_93 : decode cX0_hatItem 93 = .ok (.invokevirtual 22, 3) := by decide +kernel
theorem dX0_hatItem_96 : decode cX0_hatItem 96 = .ok (.aload_n 0, 1) := by decide +kernel
theorem dX0_hatItem_97 : decode cX0_hatItem 97 = .ok (.ldc 99, 2) := by decide +kernel
theorem dX0_hatItem_99 : decode cX0_hatItem 99 = .ok (.invokevirtual 48, 3) := by decide +kernel
theorem dX0_hatItem_102 : decode cX0_hatItem 102 = .ok (.ifCond .eq 8, 3) := by decide +kernel
theorem dX0_hatItem_105 : decode cX0_hatItem 105 = .ok (.aload_n 3, 1) := by decide +kernel
theorem dX0_hatItem_106 : decode cX0_hatItem 106 = .ok (.iconst 0, 1) := by decide +kernel
theorem dX0_hatItem_107 : decode cX0_hatItem 107 = .ok (.putfield 101, 3) := by decide +kernel
theorem dX0_hatItem_110 : decode cX0_hatItem 110 = .ok (.iconst 1, 1) := by decide +kernel
theorem dX0_hatItem_111 : decode cX0_hatItem 111 = .ok (.ireturn, 1) := by decide +kernel
theorem dX0_truthItem_0 : decode cX0_truthItem 0 = .ok (.aload_n 0, 1) := by decide +kernel
theorem dX0_truthItem_1 : decode cX0_truthItem 1 = .ok (.sipush 255, 3) := by decide +kernel
theorem dX0_truthItem_4 : decode cX0_truthItem 4 = .ok (.invokevirtual 84, 3) := by decide +kernel
theorem dX0_truthItem_7 : decode cX0_truthItem 7 = .ok (.ifCond .ne 5, 3) := by decide +kernel
theorem dX0_truthItem_10 : decode cX0_truthItem 10 = .ok (.iconst 0, 1) := by decide +kernel
theorem dX0_truthItem_11 : decode cX0_truthItem 11 = .ok (.ireturn, 1) := by decide +kernel
theorem dX0_truthItem_12 : decode cX0_truthItem 12 = .ok (.aload_n 1, 1) := by decide +kernel
theorem dX0_truthItem_13 : decode cX0_truthItem 13 = .ok (.aload_n 0, 1) := by decide +kernel
theorem dX0_truthItem_14 : decode cX0_truthItem 14 = .ok (.getfield 88, 3) := by decide +kernel
theorem dX0_truthItem_17 : decode cX0_truthItem 17 = .ok (.putfield 104, 3) := by decide +kernel
theorem dX0_truthItem_20 : decode cX0_truthItem 20 = .ok (.aload_n 0, 1) := by decide +kernel
theorem dX0_truthItem_21 : decode cX0_truthItem 21 = .ok (.invokevirtual 22, 3) := by decide +kernel
theorem dX0_truthItem_24 : decode cX0_truthItem 24 = .ok (.iconst 1, 1) := by decide +kernel
theorem dX0_truthItem_25 : decode cX0_truthItem 25 = .ok (.ireturn, 1) := by decide +kernel
theorem dX0_holdsItem_0 : decode cX0_holdsItem 0 = .ok (.aload_n 0, 1) := by decide +kernel
theorem dX0_holdsItem_1 : decode cX0_holdsItem 1 = .ok (.bipush 7, 2) := by decide +kernel
theorem dX0_holdsItem_3 : decode cX0_holdsItem 3 = .ok (.invokevirtual 84, 3) := by decide +kernel
theorem dX0_holdsItem_6 : decode cX0_holdsItem 6 = .ok (.ifCond .ne 5, 3) := by decide +kernel
theorem dX0_holdsItem_9 : decode cX0_holdsItem 9 = .ok (.iconst 0, 1) := by decide +kernel
theorem dX0_holdsItem_10 : decode cX0_holdsItem 10 = .ok (.ireturn, 1) := by decide +kernel
theorem dX0_holdsItem_11 : decode cX0_holdsItem 11 = .ok (.iconst 1, 1) := by decide +kernel
theorem dX0_holdsItem_12 : decode cX0_holdsItem 12 = .ok (.aload_n 0, 1) := by decide +kernel
theorem dX0_holdsItem_13 : decode cX0_holdsItem 13 = .ok (.getfield 88, 3) := by decide +kernel
theorem dX0_holdsItem_16 : decode cX0_holdsItem 16 = .ok (.ishl, 1) := by decide +kernel
theorem dX0_holdsItem_17 : decode cX0_holdsItem 17 = .ok (.istore_n 2, 1) := by decide +kernel
theorem dX0_holdsItem_18 : decode cX0_holdsItem 18 = .ok (.aload_n 0, 1) := by decide +kernel
theorem dX0_holdsItem_19 : decode cX0_holdsItem 19 = .ok (.invokevirtual 22, 3) := by decide +kernel
theorem dX0_holdsItem_22 : decode cX0_holdsItem 22 = .ok (.aload_n 0, 1) := by decide +kernel
theorem dX0_holdsItem_23 : decode cX0_holdsItem 23 = .ok (.ldc 106, 2) := by decide +kernel
theorem dX0_holdsItem_25 : decode cX0_holdsItem 25 = .ok (.invokevirtual 48, 3) := by decide +kernel
theorem dX0_holdsItem_28 : decode cX0_holdsItem 28 = .ok (.ifCond .eq 15, 3) := by decide +kernel
theorem dX0_holdsItem_31 : decode cX0_holdsItem 31 = .ok (.aload_n 1, 1) := by decide +kernel
theorem dX0_holdsItem_32 : decode cX0_holdsItem 32 = .ok (.dup, 1) := by decide +kernel
theorem dX0_holdsItem_33 : decode cX0_holdsItem 33 = .ok (.getfield 108, 3) := by decide +kernel
theorem dX0_holdsItem_36 : decode cX0_holdsItem 36 = .ok (.iload_n 2, 1) := by decide +kernel
theorem dX0_holdsItem_37 : decode cX0_holdsItem 37 = .ok (.ior, 1) := by decide +kernel
theorem dX0_holdsItem_38 : decode cX0_holdsItem 38 = .ok (.putfield 108, 3) := by decide +kernel
theorem dX0_holdsItem_41 : decode cX0_holdsItem 41 = .ok (.iconst 1, 1) := by decide +kernel
theorem dX0_holdsItem_42 : decode cX0_holdsItem 42 = .ok (.ireturn, 1) := by decide +kernel
theorem dX0_holdsItem_43 : decode cX0_holdsItem 43 = .ok (.aload_n 0, 1) := by decide +kernel
theorem dX0_holdsItem_44 : decode cX0_holdsItem 44 = .ok (.ldc 111, 2) := by decide +kernel
theorem dX0_holdsItem_46 : decode cX0_holdsItem 46 = .ok (.invokevirtual 48, 3) := by decide +kernel
theorem dX0_holdsItem_49 : decode cX0_holdsItem 49 = .ok (.ifCond .eq 17, 3) := by decide +kernel
theorem dX0_holdsItem_52 : decode cX0_holdsItem 52 = .ok (.aload_n 1, 1) := by decide +kernel
theorem dX0_holdsItem_53 : decode cX0_holdsItem 53 = .ok (.dup, 1) := by decide +kernel
theorem dX0_holdsItem_54 : decode cX0_holdsItem 54 = .ok (.getfield 108, 3) := by decide +kernel
theorem dX0_holdsItem_57 : decode cX0_holdsItem 57 = .ok (.iload_n 2, 1) := by decide +kernel
theorem dX0_holdsItem_58 : decode cX0_holdsItem 58 = .ok (.iconst (-1), 1) := by decide +kernel
theorem dX0_holdsItem_59 : decode cX0_holdsItem 59 = .ok (.ixor, 1) := by decide +kernel
theorem dX0_holdsItem_60 : decode cX0_holdsItem 60 = .ok (.iand, 1) := by decide +kernel
theorem dX0_holdsItem_61 : decode cX0_holdsItem 61 = .ok (.putfield 108, 3) := by decide +kernel
theorem dX0_holdsItem_64 : decode cX0_holdsItem 64 = .ok (.iconst 1, 1) := by decide +kernel
theorem dX0_holdsItem_65 : decode cX0_holdsItem 65 = .ok (.ireturn, 1) := by decide +kernel
theorem dX0_holdsItem_66 : decode cX0_holdsItem 66 = .ok (.iconst 0, 1) := by decide +kernel
theorem dX0_holdsItem_67 : decode cX0_holdsItem 67 = .ok (.ireturn, 1) := by decide +kernel
theorem dX0_liftItem_0 : decode cX0_liftItem 0 = .ok (.aload_n 0, 1) := by decide +kernel
theorem dX0_liftItem_1 : decode cX0_liftItem 1 = .ok (.aload_n 1, 1) := by decide +kernel
theorem dX0_liftItem_2 : decode cX0_liftItem 2 = .ok (.getfield 79, 3) := by decide +kernel
theorem dX0_liftItem_5 : decode cX0_liftItem 5 = .ok (.iconst 1, 1) := by decide +kernel
theorem dX0_liftItem_6 : decode cX0_liftItem 6 = .ok (.isub, 1) := by decide +kernel
theorem dX0_liftItem_7 : decode cX0_liftItem 7 = .ok (.invokevirtual 84, 3) := by decide +kernel
theorem dX0_liftItem_10 : decode cX0_liftItem 10 = .ok (.ifCond .ne 5, 3) := by decide +kernel
theorem dX0_liftItem_13 : decode cX0_liftItem 13 = .ok (.iconst 0, 1) := by decide +kernel
theorem dX0_liftItem_14 : decode cX0_liftItem 14 = .ok (.ireturn, 1) := by decide +kernel
theorem dX0_liftItem_15 : decode cX0_liftItem 15 = .ok (.aload_n 1, 1) := by decide +kernel
theorem dX0_liftItem_16 : decode cX0_liftItem 16 = .ok (.aload_n 0, 1) := by decide +kernel
theorem dX0_liftItem_17 : decode cX0_liftItem 17 = .ok (.getfield 88, 3) := by decide +kernel
theorem dX0_liftItem_20 : decode cX0_liftItem 20 = .ok (.invokevirtual 113, 3) := by decide +kernel
theorem dX0_liftItem_23 : decode cX0_liftItem 23 = .ok (.ifCond .eq 16, 3) := by decide +kernel
theorem dX0_liftItem_26 : decode cX0_liftItem 26 = .ok (.aload_n 1, 1) := by decide +kernel
theorem dX0_liftItem_27 : decode cX0_liftItem 27 = .ok (.getfield 75, 3) := by decide +kernel
theorem dX0_liftItem_30 : decode cX0_liftItem 30 = .ok (.aload_n 0, 1) := by decide +kernel
theorem dX0_liftItem_31 : decode cX0_liftItem 31 = .ok (.getfield 88, 3) := by decide +kernel
theorem dX0_liftItem_34 : decode cX0_liftItem 34 = .ok (.aaload, 1) := by decide +kernel
theorem dX0_liftItem_35 : decode cX0_liftItem 35 = .ok (.iconst 0, 1) := by decide +kernel
theorem dX0_liftItem_36 : decode cX0_liftItem 36 = .ok (.putfield 101, 3) := by decide +kernel
theorem dX0_liftItem_39 : decode cX0_liftItem 39 = .ok (.aload_n 0, 1) := by decide +kernel
theorem dX0_liftItem_40 : decode cX0_liftItem 40 = .ok (.invokevirtual 22, 3) := by decide +kernel
theorem dX0_liftItem_43 : decode cX0_liftItem 43 = .ok (.iconst 1, 1) := by decide +kernel
theorem dX0_liftItem_44 : decode cX0_liftItem 44 = .ok (.ireturn, 1) := by decide +kernel
theorem dX0_kindNamed_0 : decode cX0_kindNamed 0 = .ok (.iconst 0, 1) := by decide +kernel
theorem dX0_kindNamed_1 : decode cX0_kindNamed 1 = .ok (.istore_n 1, 1) := by decide +kernel
theorem dX0_kindNamed_2 : decode cX0_kindNamed 2 = .ok (.iload_n 1, 1) := by decide +kernel
theorem dX0_kindNamed_3 : decode cX0_kindNamed 3 = .ok (.bipush 6, 2) := by decide +kernel
theorem dX0_kindNamed_5 : decode cX0_kindNamed 5 = .ok (.if_icmp .ge 22, 3) := by decide +kernel
theorem dX0_kindNamed_8 : decode cX0_kindNamed 8 = .ok (.aload_n 0, 1) := by decide +kernel
theorem dX0_kindNamed_9 : decode cX0_kindNamed 9 = .ok (.iload_n 1, 1) := by decide +kernel
theorem dX0_kindNamed_10 : decode cX0_kindNamed 10 = .ok (.invokestatic 116, 3) := by decide +kernel
theorem dX0_kindNamed_13 : decode cX0_kindNamed 13 = .ok (.invokevirtual 120, 3) := by decide +kernel
theorem dX0_kindNamed_16 : decode cX0_kindNamed 16 = .ok (.ifCond .eq 5, 3) := by decide +kernel
theorem dX0_kindNamed_19 : decode cX0_kindNamed 19 = .ok (.iload_n 1, 1) := by decide +kernel
theorem dX0_kindNamed_20 : decode cX0_kindNamed 20 = .ok (.ireturn, 1) := by decide +kernel
theorem dX0_kindNamed_21 : decode cX0_kindNamed 21 = .ok (.iinc 1 1, 3) := by decide +kernel
theorem dX0_kindNamed_24 : decode cX0_kindNamed 24 = .ok (.goto (-22), 3) := by decide +kernel
theorem dX0_kindNamed_27 : decode cX0_kindNamed 27 = .ok (.iconst (-1), 1) := by decide +kernel
theorem dX0_kindNamed_28 : decode cX0_kindNamed 28 = .ok (.ireturn, 1) := by decide +kernel
theorem dX0_nameOf_0 : decode cX0_nameOf 0 = .ok (.iload_n 0, 1) := by decide +kernel
theorem dX0_nameOf_1 : decode cX0_nameOf 1 = .ok (.tableswitch 50 1 5 #[35, 38, 41, 44, 47], 35) := by decide +kernel
theorem dX0_nameOf_36 : decode cX0_nameOf 36 = .ok (.ldc 123, 2) := by decide +kernel
theorem dX0_nameOf_38 : decode cX0_nameOf 38 = .ok (.areturn, 1) := by decide +kernel
theorem dX0_nameOf_39 : decode cX0_nameOf 39 = .ok (.ldc 125, 2) := by decide +kernel
theorem dX0_nameOf_41 : decode cX0_nameOf 41 = .ok (.areturn, 1) := by decide +kernel
theorem dX0_nameOf_42 : decode cX0_nameOf 42 = .ok (.ldc 127, 2) := by decide +kernel
theorem dX0_nameOf_44 : decode cX0_nameOf 44 = .ok (.areturn, 1) := by decide +kernel
theorem dX0_nameOf_45 : decode cX0_nameOf 45 = .ok (.ldc 129, 2) := by decide +kernel
theorem dX0_nameOf_47 : decode cX0_nameOf 47 = .ok (.areturn, 1) := by decide +kernel
theorem dX0_nameOf_48 : decode cX0_nameOf 48 = .ok (.ldc 131, 2) := by decide +kernel
theorem dX0_nameOf_50 : decode cX0_nameOf 50 = .ok (.areturn, 1) := by decide +kernel
theorem dX0_nameOf_51 : decode cX0_nameOf 51 = .ok (.ldc 133, 2) := by decide +kernel
theorem dX0_nameOf_53 : decode cX0_nameOf 53 = .ok (.areturn, 1) := by decide +kernel
theorem dX0_isNumberUpTo_0 : decode cX0_isNumberUpTo 0 = .ok (.aload_n 0, 1) := by decide +kernel
theorem dX0_isNumberUpTo_1 : decode cX0_isNumberUpTo 1 = .ok (.getfield 32, 3) := by decide +kernel
theorem dX0_isNumberUpTo_4 : decode cX0_isNumberUpTo 4 = .ok (.iconst 2, 1) := by decide +kernel
theorem dX0_isNumberUpTo_5 : decode cX0_isNumberUpTo 5 = .ok (.if_icmp .ne 15, 3) := by decide +kernel
theorem dX0_isNumberUpTo_8 : decode cX0_isNumberUpTo 8 = .ok (.aload_n 0, 1) := by decide +kernel
theorem dX0_isNumberUpTo_9 : decode cX0_isNumberUpTo 9 = .ok (.getfield 88, 3) := by decide +kernel
theorem dX0_isNumberUpTo_12 : decode cX0_isNumberUpTo 12 = .ok (.iload_n 1, 1) := by decide +kernel
theorem dX0_isNumberUpTo_13 : decode cX0_isNumberUpTo 13 = .ok (.if_icmp .gt 7, 3) := by decide +kernel
theorem dX0_isNumberUpTo_16 : decode cX0_isNumberUpTo 16 = .ok (.iconst 1, 1) := by decide +kernel
theorem dX0_isNumberUpTo_17 : decode cX0_isNumberUpTo 17 = .ok (.goto 4, 3) := by decide +kernel
theorem dX0_isNumberUpTo_20 : decode cX0_isNumberUpTo 20 = .ok (.iconst 0, 1) := by decide +kernel
theorem dX0_isNumberUpTo_21 : decode cX0_isNumberUpTo 21 = .ok (.ireturn, 1) := by decide +kernel
theorem dX0_isWord_0 : decode cX0_isWord 0 = .ok (.aload_n 0, 1) := by decide +kernel
theorem dX0_isWord_1 : decode cX0_isWord 1 = .ok (.getfield 32, 3) := by decide +kernel
theorem dX0_isWord_4 : decode cX0_isWord 4 = .ok (.iconst 1, 1) := by decide +kernel
theorem dX0_isWord_5 : decode cX0_isWord 5 = .ok (.if_icmp .ne 19, 3) := by decide +kernel
theorem dX0_isWord_8 : decode cX0_isWord 8 = .ok (.aload_n 0, 1) := by decide +kernel
theorem dX0_isWord_9 : decode cX0_isWord 9 = .ok (.getfield 18, 3) := by decide +kernel
theorem dX0_isWord_12 : decode cX0_isWord 12 = .ok (.aload_n 0, 1) := by decide +kernel
theorem dX0_isWord_13 : decode cX0_isWord 13 = .ok (.getfield 29, 3) := by decide +kernel
theorem dX0_isWord_16 : decode cX0_isWord 16 = .ok (.isub, 1) := by decide +kernel
theorem dX0_isWord_17 : decode cX0_isWord 17 = .ok (.aload_n 1, 1) := by decide +kernel
theorem dX0_isWord_18 : decode cX0_isWord 18 = .ok (.invokevirtual 135, 3) := by decide +kernel
theorem dX0_isWord_21 : decode cX0_isWord 21 = .ok (.if_icmp .eq 5, 3) := by decide +kernel
theorem dX0_isWord_24 : decode cX0_isWord 24 = .ok (.iconst 0, 1) := by decide +kernel
theorem dX0_isWord_25 : decode cX0_isWord 25 = .ok (.ireturn, 1) := by decide +kernel
theorem dX0_isWord_26 : decode cX0_isWord 26 = .ok (.iconst 0, 1) := by decide +kernel
theorem dX0_isWord_27 : decode cX0_isWord 27 = .ok (.istore_n 2, 1) := by decide +kernel
theorem dX0_isWord_28 : decode cX0_isWord 28 = .ok (.iload_n 2, 1) := by decide +kernel
theorem dX0_isWord_29 : decode cX0_isWord 29 = .ok (.aload_n 1, 1) := by decide +kernel
theorem dX0_isWord_30 : decode cX0_isWord 30 = .ok (.invokevirtual 135, 3) := by decide +kernel
theorem dX0_isWord_33 : decode cX0_isWord 33 = .ok (.if_icmp .ge 35, 3) := by decide +kernel
theorem dX0_isWord_36 : decode cX0_isWord 36 = .ok (.aload_n 1, 1) := by decide +kernel
theorem dX0_isWord_37 : decode cX0_isWord 37 = .ok (.iload_n 2, 1) := by decide +kernel
theorem dX0_isWord_38 : decode cX0_isWord 38 = .ok (.invokevirtual 139, 3) := by decide +kernel
theorem dX0_isWord_41 : decode cX0_isWord 41 = .ok (.istore_n 3, 1) := by decide +kernel
theorem dX0_isWord_42 : decode cX0_isWord 42 = .ok (.aload_n 0, 1) := by decide +kernel
theorem dX0_isWord_43 : decode cX0_isWord 43 = .ok (.getfield 12, 3) := by decide +kernel
theorem dX0_isWord_46 : decode cX0_isWord 46 = .ok (.aload_n 0, 1) := by decide +kernel
theorem dX0_isWord_47 : decode cX0_isWord 47 = .ok (.getfield 29, 3) := by decide +kernel
theorem dX0_isWord_50 : decode cX0_isWord 50 = .ok (.iload_n 2, 1) := by decide +kernel
theorem dX0_isWord_51 : decode cX0_isWord 51 = .ok (.iadd, 1) := by decide +kernel
theorem dX0_isWord_52 : decode cX0_isWord 52 = .ok (.iload_n 3, 1) := by decide +kernel
theorem dX0_isWord_53 : decode cX0_isWord 53 = .ok (.iload_n 3, 1) := by decide +kernel
theorem dX0_isWord_54 : decode cX0_isWord 54 = .ok (.invokevirtual 143, 3) := by decide +kernel
theorem dX0_isWord_57 : decode cX0_isWord 57 = .ok (.ifCond .ne 5, 3) := by decide +kernel
theorem dX0_isWord_60 : decode cX0_isWord 60 = .ok (.iconst 0, 1) := by decide +kernel
theorem dX0_isWord_61 : decode cX0_isWord 61 = .ok (.ireturn, 1) := by decide +kernel
theorem dX0_isWord_62 : decode cX0_isWord 62 = .ok (.iinc 2 1, 3) := by decide +kernel
theorem dX0_isWord_65 : decode cX0_isWord 65 = .ok (.goto (-37), 3) := by decide +kernel
theorem dX0_isWord_68 : decode cX0_isWord 68 = .ok (.iconst 1, 1) := by decide +kernel
theorem dX0_isWord_69 : decode cX0_isWord 69 = .ok (.ireturn, 1) := by decide +kernel
theorem dX0_takes_0 : decode cX0_takes 0 = .ok (.aload_n 0, 1) := by decide +kernel
theorem dX0_takes_1 : decode cX0_takes 1 = .ok (.aload_n 1, 1) := by decide +kernel
theorem dX0_takes_2 : decode cX0_takes 2 = .ok (.invokevirtual 120, 3) := by decide +kernel
theorem dX0_takes_5 : decode cX0_takes 5 = .ok (.ifCond .ne 5, 3) := by decide +kernel
theorem dX0_takes_8 : decode cX0_takes 8 = .ok (.iconst 0, 1) := by decide +kernel
theorem dX0_takes_9 : decode cX0_takes 9 = .ok (.ireturn, 1) := by decide +kernel
theorem dX0_takes_10 : decode cX0_takes 10 = .ok (.aload_n 0, 1) := by decide +kernel
theorem dX0_takes_11 : decode cX0_takes 11 = .ok (.invokevirtual 22, 3) := by decide +kernel
theorem dX0_takes_14 : decode cX0_takes 14 = .ok (.iconst 1, 1) := by decide +kernel
theorem dX0_takes_15 : decode cX0_takes 15 = .ok (.ireturn, 1) := by decide +kernel
theorem dX0_next_0 : decode cX0_next 0 = .ok (.aload_n 0, 1) := by decide +kernel
theorem dX0_next_1 : decode cX0_next 1 = .ok (.aload_n 0, 1) := by decide +kernel
theorem dX0_next_2 : decode cX0_next 2 = .ok (.getfield 12, 3) := by decide +kernel
theorem dX0_next_5 : decode cX0_next 5 = .ok (.aload_n 0, 1) := by decide +kernel
theorem dX0_next_6 : decode cX0_next 6 = .ok (.getfield 18, 3) := by decide +kernel
theorem dX0_next_9 : decode cX0_next 9 = .ok (.bipush 32, 2) := by decide +kernel
theorem dX0_next_11 : decode cX0_next 11 = .ok (.bipush 32, 2) := by decide +kernel
theorem dX0_next_13 : decode cX0_next 13 = .ok (.invokevirtual 147, 3) := by decide +kernel
theorem dX0_next_16 : decode cX0_next 16 = .ok (.putfield 29, 3) := by decide +kernel
theorem dX0_next_19 : decode cX0_next 19 = .ok (.aload_n 0, 1) := by decide +kernel
theorem dX0_next_20 : decode cX0_next 20 = .ok (.aload_n 0, 1) := by decide +kernel
theorem dX0_next_21 : decode cX0_next 21 = .ok (.getfield 29, 3) := by decide +kernel
theorem dX0_next_24 : decode cX0_next 24 = .ok (.putfield 18, 3) := by decide +kernel
theorem dX0_next_27 : decode cX0_next 27 = .ok (.aload_n 0, 1) := by decide +kernel
theorem dX0_next_28 : decode cX0_next 28 = .ok (.getfield 29, 3) := by decide +kernel
theorem dX0_next_31 : decode cX0_next 31 = .ok (.aload_n 0, 1) := by decide +kernel
theorem dX0_next_32 : decode cX0_next 32 = .ok (.getfield 12, 3) := by decide +kernel
theorem dX0_next_35 : decode cX0_next 35 = .ok (.getfield 35, 3) := by decide +kernel
theorem dX0_next_38 : decode cX0_next 38 = .ok (.if_icmp .lt 11, 3) := by decide +kernel
theorem dX0_next_41 : decode cX0_next 41 = .ok (.aload_n 0, 1) := by decide +kernel
theorem dX0_next_42 : decode cX0_next 42 = .ok (.iconst 0, 1) := by decide +kernel
theorem dX0_next_43 : decode cX0_next 43 = .ok (.putfield 32, 3) := by decide +kernel
theorem dX0_next_46 : decode cX0_next 46 = .ok (.goto 138, 3) := by decide +kernel
theorem dX0_next_49 : decode cX0_next 49 = .ok (.aload_n 0, 1) := by decide +kernel
theorem dX0_next_50 : decode cX0_next 50 = .ok (.getfield 12, 3) := by decide +kernel
theorem dX0_next_53 : decode cX0_next 53 = .ok (.aload_n 0, 1) := by decide +kernel
theorem dX0_next_54 : decode cX0_next 54 = .ok (.getfield 29, 3) := by decide +kernel
theorem dX0_next_57 : decode cX0_next 57 = .ok (.bipush 97, 2) := by decide +kernel
theorem dX0_next_59 : decode cX0_next 59 = .ok (.bipush 122, 2) := by decide +kernel
theorem dX0_next_61 : decode cX0_next 61 = .ok (.invokevirtual 143, 3) := by decide +kernel
theorem dX0_next_64 : decode cX0_next 64 = .ok (.ifCond .eq 30, 3) := by decide +kernel
theorem dX0_next_67 : decode cX0_next 67 = .ok (.aload_n 0, 1) := by decide +kernel
theorem dX0_next_68 : decode cX0_next 68 = .ok (.iconst 1, 1) := by decide +kernel
theorem dX0_next_69 : decode cX0_next 69 = .ok (.putfield 32, 3) := by decide +kernel
theorem dX0_next_72 : decode cX0_next 72 = .ok (.aload_n 0, 1) := by decide +kernel
theorem dX0_next_73 : decode cX0_next 73 = .ok (.aload_n 0, 1) := by decide +kernel
theorem dX0_next_74 : decode cX0_next 74 = .ok (.getfield 12, 3) := by decide +kernel
theorem dX0_next_77 : decode cX0_next 77 = .ok (.aload_n 0, 1) := by decide +kernel
theorem dX0_next_78 : decode cX0_next 78 = .ok (.getfield 29, 3) := by decide +kernel
theorem dX0_next_81 : decode cX0_next 81 = .ok (.bipush 97, 2) := by decide +kernel
theorem dX0_next_83 : decode cX0_next 83 = .ok (.bipush 122, 2) := by decide +kernel
theorem dX0_next_85 : decode cX0_next 85 = .ok (.invokevirtual 147, 3) := by decide +kernel
theorem dX0_next_88 : decode cX0_next 88 = .ok (.putfield 18, 3) := by decide +kernel
theorem dX0_next_91 : decode cX0_next 91 = .ok (.goto 93, 3) := by decide +kernel
theorem dX0_next_94 : decode cX0_next 94 = .ok (.aload_n 0, 1) := by decide +kernel
theorem dX0_next_95 : decode cX0_next 95 = .ok (.getfield 12, 3) := by decide +kernel
theorem dX0_next_98 : decode cX0_next 98 = .ok (.aload_n 0, 1) := by decide +kernel
theorem dX0_next_99 : decode cX0_next 99 = .ok (.getfield 29, 3) := by decide +kernel
theorem dX0_next_102 : decode cX0_next 102 = .ok (.bipush 48, 2) := by decide +kernel
theorem dX0_next_104 : decode cX0_next 104 = .ok (.bipush 57, 2) := by decide +kernel
theorem dX0_next_106 : decode cX0_next 106 = .ok (.invokevirtual 143, 3) := by decide +kernel
theorem dX0_next_109 : decode cX0_next 109 = .ok (.ifCond .eq 38, 3) := by decide +kernel
theorem dX0_next_112 : decode cX0_next 112 = .ok (.aload_n 0, 1) := by decide +kernel
theorem dX0_next_113 : decode cX0_next 113 = .ok (.iconst 2, 1) := by decide +kernel
theorem dX0_next_114 : decode cX0_next 114 = .ok (.putfield 32, 3) := by decide +kernel
theorem dX0_next_117 : decode cX0_next 117 = .ok (.aload_n 0, 1) := by decide +kernel
theorem dX0_next_118 : decode cX0_next 118 = .ok (.aload_n 0, 1) := by decide +kernel
theorem dX0_next_119 : decode cX0_next 119 = .ok (.getfield 12, 3) := by decide +kernel
theorem dX0_next_122 : decode cX0_next 122 = .ok (.aload_n 0, 1) := by decide +kernel
theorem dX0_next_123 : decode cX0_next 123 = .ok (.getfield 29, 3) := by decide +kernel
theorem dX0_next_126 : decode cX0_next 126 = .ok (.bipush 48, 2) := by decide +kernel
theorem dX0_next_128 : decode cX0_next 128 = .ok (.bipush 57, 2) := by decide +kernel
theorem dX0_next_130 : decode cX0_next 130 = .ok (.invokevirtual 147, 3) := by decide +kernel
theorem dX0_next_133 : decode cX0_next 133 = .ok (.putfield 18, 3) := by decide +kernel
theorem dX0_next_136 : decode cX0_next 136 = .ok (.aload_n 0, 1) := by decide +kernel
theorem dX0_next_137 : decode cX0_next 137 = .ok (.aload_n 0, 1) := by decide +kernel
theorem dX0_next_138 : decode cX0_next 138 = .ok (.invokevirtual 151, 3) := by decide +kernel
theorem dX0_next_141 : decode cX0_next 141 = .ok (.putfield 88, 3) := by decide +kernel
theorem dX0_next_144 : decode cX0_next 144 = .ok (.goto 40, 3) := by decide +kernel
theorem dX0_next_147 : decode cX0_next 147 = .ok (.aload_n 0, 1) := by decide +kernel
theorem dX0_next_148 : decode cX0_next 148 = .ok (.aload_n 0, 1) := by decide +kernel
theorem dX0_next_149 : decode cX0_next 149 = .ok (.getfield 12, 3) := by decide +kernel
theorem dX0_next_152 : decode cX0_next 152 = .ok (.aload_n 0, 1) := by decide +kernel
theorem dX0_next_153 : decode cX0_next 153 = .ok (.getfield 29, 3) := by decide +kernel
theorem dX0_next_156 : decode cX0_next 156 = .ok (.bipush 59, 2) := by decide +kernel
theorem dX0_next_158 : decode cX0_next 158 = .ok (.bipush 59, 2) := by decide +kernel
theorem dX0_next_160 : decode cX0_next 160 = .ok (.invokevirtual 143, 3) := by decide +kernel
theorem dX0_next_163 : decode cX0_next 163 = .ok (.ifCond .eq 7, 3) := by decide +kernel
theorem dX0_next_166 : decode cX0_next 166 = .ok (.iconst 3, 1) := by decide +kernel
theorem dX0_next_167 : decode cX0_next 167 = .ok (.goto 4, 3) := by decide +kernel
theorem dX0_next_170 : decode cX0_next 170 = .ok (.iconst 4, 1) := by decide +kernel
theorem dX0_next_171 : decode cX0_next 171 = .ok (.putfield 32, 3) := by decide +kernel
theorem dX0_next_174 : decode cX0_next 174 = .ok (.aload_n 0, 1) := by decide +kernel
theorem dX0_next_175 : decode cX0_next 175 = .ok (.aload_n 0, 1) := by decide +kernel
theorem dX0_next_176 : decode cX0_next 176 = .ok (.getfield 29, 3) := by decide +kernel
theorem dX0_next_179 : decode cX0_next 179 = .ok (.iconst 1, 1) := by decide +kernel
theorem dX0_next_180 : decode cX0_next 180 = .ok (.iadd, 1) := by decide +kernel
theorem dX0_next_181 : decode cX0_next 181 = .ok (.putfield 18, 3) := by decide +kernel
theorem dX0_next_184 : decode cX0_next 184 = .ok (.return_, 1) := by decide +kernel
theorem dX0_valueOfDigits_0 : decode cX0_valueOfDigits 0 = .ok (.iconst 0, 1) := by decide +kernel
theorem dX0_valueOfDigits_1 : decode cX0_valueOfDigits 1 = .ok (.istore_n 1, 1) := by decide +kernel
theorem dX0_valueOfDigits_2 : decode cX0_valueOfDigits 2 = .ok (.aload_n 0, 1) := by decide +kernel
theorem dX0_valueOfDigits_3 : decode cX0_valueOfDigits 3 = .ok (.getfield 29, 3) := by decide +kernel
theorem dX0_valueOfDigits_6 : decode cX0_valueOfDigits 6 = .ok (.istore_n 2, 1) := by decide +kernel
theorem dX0_valueOfDigits_7 : decode cX0_valueOfDigits 7 = .ok (.iload_n 2, 1) := by decide +kernel
theorem dX0_valueOfDigits_8 : decode cX0_valueOfDigits 8 = .ok (.aload_n 0, 1) := by decide +kernel
theorem dX0_valueOfDigits_9 : decode cX0_valueOfDigits 9 = .ok (.getfield 18, 3) := by decide +kernel
theorem dX0_valueOfDigits_12 : decode cX0_valueOfDigits 12 = .ok (.if_icmp .ge 45, 3) := by decide +kernel
theorem dX0_valueOfDigits_15 : decode cX0_valueOfDigits 15 = .ok (.iload_n 2, 1) := by decide +kernel
theorem dX0_valueOfDigits_16 : decode cX0_valueOfDigits 16 = .ok (.aload_n 0, 1) := by decide +kernel
theorem dX0_valueOfDigits_17 : decode cX0_valueOfDigits 17 = .ok (.getfield 12, 3) := by decide +kernel
theorem dX0_valueOfDigits_20 : decode cX0_valueOfDigits 20 = .ok (.getfield 35, 3) := by decide +kernel
theorem dX0_valueOfDigits_23 : decode cX0_valueOfDigits 23 = .ok (.if_icmp .ge 34, 3) := by decide +kernel
theorem dX0_valueOfDigits_26 : decode cX0_valueOfDigits 26 = .ok (.iload_n 1, 1) := by decide +kernel
theorem dX0_valueOfDigits_27 : decode cX0_valueOfDigits 27 = .ok (.sipush 1000, 3) := by decide +kernel
theorem dX0_valueOfDigits_30 : decode cX0_valueOfDigits 30 = .ok (.if_icmp .ge 27, 3) := by decide +kernel
theorem dX0_valueOfDigits_33 : decode cX0_valueOfDigits 33 = .ok (.iload_n 1, 1) := by decide +kernel
theorem dX0_valueOfDigits_34 : decode cX0_valueOfDigits 34 = .ok (.bipush 10, 2) := by decide +kernel
theorem dX0_valueOfDigits_36 : decode cX0_valueOfDigits 36 = .ok (.imul, 1) := by decide +kernel
theorem dX0_valueOfDigits_37 : decode cX0_valueOfDigits 37 = .ok (.aload_n 0, 1) := by decide +kernel
theorem dX0_valueOfDigits_38 : decode cX0_valueOfDigits 38 = .ok (.getfield 12, 3) := by decide +kernel
theorem dX0_valueOfDigits_41 : decode cX0_valueOfDigits 41 = .ok (.getfield 154, 3) := by decide +kernel
theorem dX0_valueOfDigits_44 : decode cX0_valueOfDigits 44 = .ok (.iload_n 2, 1) := by decide +kernel
theorem dX0_valueOfDigits_45 : decode cX0_valueOfDigits 45 = .ok (.iaload, 1) := by decide +kernel
theorem dX0_valueOfDigits_46 : decode cX0_valueOfDigits 46 = .ok (.iadd, 1) := by decide +kernel
theorem dX0_valueOfDigits_47 : decode cX0_valueOfDigits 47 = .ok (.bipush 48, 2) := by decide +kernel
theorem dX0_valueOfDigits_49 : decode cX0_valueOfDigits 49 = .ok (.isub, 1) := by decide +kernel
theorem dX0_valueOfDigits_50 : decode cX0_valueOfDigits 50 = .ok (.istore_n 1, 1) := by decide +kernel
theorem dX0_valueOfDigits_51 : decode cX0_valueOfDigits 51 = .ok (.iinc 2 1, 3) := by decide +kernel
theorem dX0_valueOfDigits_54 : decode cX0_valueOfDigits 54 = .ok (.goto (-47), 3) := by decide +kernel
theorem dX0_valueOfDigits_57 : decode cX0_valueOfDigits 57 = .ok (.iload_n 1, 1) := by decide +kernel
theorem dX0_valueOfDigits_58 : decode cX0_valueOfDigits 58 = .ok (.ireturn, 1) := by decide +kernel
theorem dX1_init_0 : decode cX1_init 0 = .ok (.aload_n 0, 1) := by decide +kernel
theorem dX1_init_1 : decode cX1_init 1 = .ok (.invokespecial 3, 3) := by decide +kernel
theorem dX1_init_4 : decode cX1_init 4 = .ok (.return_, 1) := by decide +kernel
theorem dX1_begin_0 : decode cX1_begin 0 = .ok (.aload_n 0, 1) := by decide +kernel
theorem dX1_begin_1 : decode cX1_begin 1 = .ok (.iload_n 1, 1) := by decide +kernel
theorem dX1_begin_2 : decode cX1_begin 2 = .ok (.putfield 9, 3) := by decide +kernel
theorem dX1_begin_5 : decode cX1_begin 5 = .ok (.aload_n 0, 1) := by decide +kernel
theorem dX1_begin_6 : decode cX1_begin 6 = .ok (.iload_n 2, 1) := by decide +kernel
theorem dX1_begin_7 : decode cX1_begin 7 = .ok (.putfield 15, 3) := by decide +kernel
theorem dX1_begin_10 : decode cX1_begin 10 = .ok (.aload_n 0, 1) := by decide +kernel
theorem dX1_begin_11 : decode cX1_begin 11 = .ok (.iconst 0, 1) := by decide +kernel
theorem dX1_begin_12 : decode cX1_begin 12 = .ok (.putfield 18, 3) := by decide +kernel
theorem dX1_begin_15 : decode cX1_begin 15 = .ok (.aload_n 0, 1) := by decide +kernel
theorem dX1_begin_16 : decode cX1_begin 16 = .ok (.iconst 0, 1) := by decide +kernel
theorem dX1_begin_17 : decode cX1_begin 17 = .ok (.putfield 21, 3) := by decide +kernel
theorem dX1_begin_20 : decode cX1_begin 20 = .ok (.aload_n 0, 1) := by decide +kernel
theorem dX1_begin_21 : decode cX1_begin 21 = .ok (.bipush 50, 2) := by decide +kernel
theorem dX1_begin_23 : decode cX1_begin 23 = .ok (.putfield 24, 3) := by decide +kernel
theorem dX1_begin_26 : decode cX1_begin 26 = .ok (.aload_n 0, 1) := by decide +kernel
theorem dX1_begin_27 : decode cX1_begin 27 = .ok (.iconst 1, 1) := by decide +kernel
theorem dX1_begin_28 : decode cX1_begin 28 = .ok (.putfield 27, 3) := by decide +kernel
theorem dX1_begin_31 : decode cX1_begin 31 = .ok (.return_, 1) := by decide +kernel
theorem dX1_become_0 : decode cX1_become 0 = .ok (.aload_n 0, 1) := by decide +kernel
theorem dX1_become_1 : decode cX1_become 1 = .ok (.aload_n 1, 1) := by decide +kernel
theorem dX1_become_2 : decode cX1_become 2 = .ok (.getfield 9, 3) := by decide +kernel
theorem dX1_become_5 : decode cX1_become 5 = .ok (.putfield 9, 3) := by decide +kernel
theorem dX1_become_8 : decode cX1_become 8 = .ok (.aload_n 0, 1) := by decide +kernel
theorem dX1_become_9 : decode cX1_become 9 = .ok (.aload_n 1, 1) := by decide +kernel
theorem dX1_become_10 : decode cX1_become 10 = .ok (.getfield 15, 3) := by decide +kernel
theorem dX1_become_13 : decode cX1_become 13 = .ok (.putfield 15, 3) := by decide +kernel
theorem dX1_become_16 : decode cX1_become 16 = .ok (.aload_n 0, 1) := by decide +kernel
theorem dX1_become_17 : decode cX1_become 17 = .ok (.aload_n 1, 1) := by decide +kernel
theorem dX1_become_18 : decode cX1_become 18 = .ok (.getfield 18, 3) := by decide +kernel
theorem dX1_become_21 : decode cX1_become 21 = .ok (.putfield 18, 3) := by decide +kernel
theorem dX1_become_24 : decode cX1_become 24 = .ok (.aload_n 0, 1) := by decide +kernel
theorem dX1_become_25 : decode cX1_become 25 = .ok (.aload_n 1, 1) := by decide +kernel
theorem dX1_become_26 : decode cX1_become 26 = .ok (.getfield 21, 3) := by decide +kernel
theorem dX1_become_29 : decode cX1_become 29 = .ok (.putfield 21, 3) := by decide +kernel
theorem dX1_become_32 : decode cX1_become 32 = .ok (.aload_n 0, 1) := by decide +kernel
theorem dX1_become_33 : decode cX1_become 33 = .ok (.aload_n 1, 1) := by decide +kernel
theorem dX1_become_34 : decode cX1_become 34 = .ok (.getfield 24, 3) := by decide +kernel
theorem dX1_become_37 : decode cX1_become 37 = .ok (.putfield 24, 3) := by decide +kernel
theorem dX1_become_40 : decode cX1_become 40 = .ok (.aload_n 0, 1) := by decide +kernel
theorem dX1_become_41 : decode cX1_become 41 = .ok (.aload_n 1, 1) := by decide +kernel
theorem dX1_become_42 : decode cX1_become 42 = .ok (.getfield 27, 3) := by decide +kernel
theorem dX1_become_45 : decode cX1_become 45 = .ok (.putfield 27, 3) := by decide +kernel
theorem dX1_become_48 : decode cX1_become 48 = .ok (.return_, 1) := by decide +kernel
theorem dX1_trait_0 : decode cX1_trait 0 = .ok (.iload_n 1, 1) := by decide +kernel
theorem dX1_trait_1 : decode cX1_trait 1 = .ok (.tableswitch 60 1 5 #[35, 40, 45, 50, 55], 35) := by decide +kernel
theorem dX1_trait_36 : decode cX1_trait 36 = .ok (.aload_n 0, 1) := by decide +kernel
theorem dX1_trait_37 : decode cX1_trait 37 = .ok (.getfield 15, 3) := by decide +kernel
theorem dX1_trait_40 : decode cX1_trait 40 = .ok (.ireturn, 1) := by decide +kernel
theorem dX1_trait_41 : decode cX1_trait 41 = .ok (.aload_n 0, 1) := by decide +kernel
theorem dX1_trait_42 : decode cX1_trait 42 = .ok (.getfield 18, 3) := by decide +kernel
theorem dX1_trait_45 : decode cX1_trait 45 = .ok (.ireturn, 1) := by decide +kernel
theorem dX1_trait_46 : decode cX1_trait 46 = .ok (.aload_n 0, 1) := by decide +kernel
theorem dX1_trait_47 : decode cX1_trait 47 = .ok (.getfield 21, 3) := by decide +kernel
theorem dX1_trait_50 : decode cX1_trait 50 = .ok (.ireturn, 1) := by decide +kernel
theorem dX1_trait_51 : decode cX1_trait 51 = .ok (.aload_n 0, 1) := by decide +kernel
theorem dX1_trait_52 : decode cX1_trait 52 = .ok (.getfield 24, 3) := by decide +kernel
theorem dX1_trait_55 : decode cX1_trait 55 = .ok (.ireturn, 1) := by decide +kernel
theorem dX1_trait_56 : decode cX1_trait 56 = .ok (.aload_n 0, 1) := by decide +kernel
theorem dX1_trait_57 : decode cX1_trait 57 = .ok (.getfield 27, 3) := by decide +kernel
theorem dX1_trait_60 : decode cX1_trait 60 = .ok (.ireturn, 1) := by decide +kernel
theorem dX1_trait_61 : decode cX1_trait 61 = .ok (.aload_n 0, 1) := by decide +kernel
theorem dX1_trait_62 : decode cX1_trait 62 = .ok (.getfield 9, 3) := by decide +kernel
theorem dX1_trait_65 : decode cX1_trait 65 = .ok (.ireturn, 1) := by decide +kernel
theorem dX1_put_0 : decode cX1_put 0 = .ok (.iload_n 1, 1) := by decide +kernel
theorem dX1_put_1 : decode cX1_put 1 = .ok (.tableswitch 63 1 4 #[31, 39, 47, 55], 31) := by decide +kernel
theorem dX1_put_32 : decode cX1_put 32 = .ok (.aload_n 0, 1) := by decide +kernel
theorem dX1_put_33 : decode cX1_put 33 = .ok (.iload_n 2, 1) := by decide +kernel
theorem dX1_put_34 : decode cX1_put 34 = .ok (.putfield 15, 3) := by decide +kernel
theorem dX1_put_37 : decode cX1_put 37 = .ok (.goto 32, 3) := by decide +kernel
theorem dX1_put_40 : decode cX1_put 40 = .ok (.aload_n 0, 1) := by decide +kernel
theorem dX1_put_41 : decode cX1_put 41 = .ok (.iload_n 2, 1) := by decide +kernel
theorem dX1_put_42 : decode cX1_put 42 = .ok (.putfield 18, 3) := by decide +kernel
theorem dX1_put_45 : decode cX1_put 45 = .ok (.goto 24, 3) := by decide +kernel
theorem dX1_put_48 : decode cX1_put 48 = .ok (.aload_n 0, 1) := by decide +kernel
theorem dX1_put_49 : decode cX1_put 49 = .ok (.iload_n 2, 1) := by decide +kernel
theorem dX1_put_50 : decode cX1_put 50 = .ok (.putfield 21, 3) := by decide +kernel
theorem dX1_put_53 : decode cX1_put 53 = .ok (.goto 16, 3) := by decide +kernel
theorem dX1_put_56 : decode cX1_put 56 = .ok (.aload_n 0, 1) := by decide +kernel
theorem dX1_put_57 : decode cX1_put 57 = .ok (.iload_n 2, 1) := by decide +kernel
theorem dX1_put_58 : decode cX1_put 58 = .ok (.putfield 24, 3) := by decide +kernel
theorem dX1_put_61 : decode cX1_put 61 = .ok (.goto 8, 3) := by decide +kernel
theorem dX1_put_64 : decode cX1_put 64 = .ok (.aload_n 0, 1) := by decide +kernel
theorem dX1_put_65 : decode cX1_put 65 = .ok (.iload_n 2, 1) := by decide +kernel
theorem dX1_put_66 : decode cX1_put 66 = .ok (.putfield 27, 3) := by decide +kernel
theorem dX1_put_69 : decode cX1_put 69 = .ok (.return_, 1) := by decide +kernel
theorem dX1_mostOf_0 : decode cX1_mostOf 0 = .ok (.iload_n 0, 1) := by decide +kernel
theorem dX1_mostOf_1 : decode cX1_mostOf 1 = .ok (.tableswitch 44 1 5 #[35, 44, 44, 39, 42], 35) := by decide +kernel
theorem dX1_mostOf_36 : decode cX1_mostOf 36 = .ok (.sipush 255, 3) := by decide +kernel
theorem dX1_mostOf_39 : decode cX1_mostOf 39 = .ok (.ireturn, 1) := by decide +kernel
theorem dX1_mostOf_40 : decode cX1_mostOf 40 = .ok (.bipush 99, 2) := by decide +kernel
theorem dX1_mostOf_42 : decode cX1_mostOf 42 = .ok (.ireturn, 1) := by decide +kernel
theorem dX1_mostOf_43 : decode cX1_mostOf 43 = .ok (.iconst 1, 1) := by decide +kernel
theorem dX1_mostOf_44 : decode cX1_mostOf 44 = .ok (.ireturn, 1) := by decide +kernel
theorem dX1_mostOf_45 : decode cX1_mostOf 45 = .ok (.sipush 9999, 3) := by decide +kernel
theorem dX1_mostOf_48 : decode cX1_mostOf 48 = .ok (.ireturn, 1) := by decide +kernel
theorem dX1_isOfKind_0 : decode cX1_isOfKind 0 = .ok (.iload_n 1, 1) := by decide +kernel
theorem dX1_isOfKind_1 : decode cX1_isOfKind 1 = .ok (.aload_n 0, 1) := by decide +kernel
theorem dX1_isOfKind_2 : decode cX1_isOfKind 2 = .ok (.getfield 9, 3) := by decide +kernel
theorem dX1_isOfKind_5 : decode cX1_isOfKind 5 = .ok (.if_icmp .eq 33, 3) := by decide +kernel
theorem dX1_isOfKind_8 : decode cX1_isOfKind 8 = .ok (.iload_n 1, 1) := by decide +kernel
theorem dX1_isOfKind_9 : decode cX1_isOfKind 9 = .ok (.ifCond .eq 29, 3) := by decide +kernel
theorem dX1_isOfKind_12 : decode cX1_isOfKind 12 = .ok (.iload_n 1, 1) := by decide +kernel
theorem dX1_isOfKind_13 : decode cX1_isOfKind 13 = .ok (.iconst 1, 1) := by decide +kernel
theorem dX1_isOfKind_14 : decode cX1_isOfKind 14 = .ok (.if_icmp .ne 11, 3) := by decide +kernel
theorem dX1_isOfKind_17 : decode cX1_isOfKind 17 = .ok (.aload_n 0, 1) := by decide +kernel
theorem dX1_isOfKind_18 : decode cX1_isOfKind 18 = .ok (.getfield 9, 3) := by decide +kernel
theorem dX1_isOfKind_21 : decode cX1_isOfKind 21 = .ok (.iconst 4, 1) := by decide +kernel
theorem dX1_isOfKind_22 : decode cX1_isOfKind 22 = .ok (.if_icmp .eq 16, 3) := by decide +kernel
theorem dX1_isOfKind_25 : decode cX1_isOfKind 25 = .ok (.iload_n 1, 1) := by decide +kernel
theorem dX1_isOfKind_26 : decode cX1_isOfKind 26 = .ok (.iconst 2, 1) := by decide +kernel
theorem dX1_isOfKind_27 : decode cX1_isOfKind 27 = .ok (.if_icmp .ne 15, 3) := by decide +kernel
theorem dX1_isOfKind_30 : decode cX1_isOfKind 30 = .ok (.aload_n 0, 1) := by decide +kernel
theorem dX1_isOfKind_31 : decode cX1_isOfKind 31 = .ok (.getfield 9, 3) := by decide +kernel
theorem dX1_isOfKind_34 : decode cX1_isOfKind 34 = .ok (.iconst 5, 1) := by decide +kernel
theorem dX1_isOfKind_35 : decode cX1_isOfKind 35 = .ok (.if_icmp .ne 7, 3) := by decide +kernel
theorem dX1_isOfKind_38 : decode cX1_isOfKind 38 = .ok (.iconst 1, 1) := by decide +kernel
theorem dX1_isOfKind_39 : decode cX1_isOfKind 39 = .ok (.goto 4, 3) := by decide +kernel
theorem dX1_isOfKind_42 : decode cX1_isOfKind 42 = .ok (.iconst 0, 1) := by decide +kernel
theorem dX1_isOfKind_43 : decode cX1_isOfKind 43 = .ok (.ireturn, 1) := by decide +kernel
theorem dX1_answer_0 : decode cX1_answer 0 = .ok (.aload_n 0, 1) := by decide +kernel
theorem dX1_answer_1 : decode cX1_answer 1 = .ok (.getfield 9, 3) := by decide +kernel
theorem dX1_answer_4 : decode cX1_answer 4 = .ok (.tableswitch 111 1 5 #[36, 42, 49, 77, 94], 36) := by decide +kernel
theorem dX1_answer_40 : decode cX1_answer 40 = .ok (.aload_n 0, 1) := by decide +kernel
theorem dX1_answer_41 : decode cX1_answer 41 = .ok (.iload_n 1, 1) := by decide +kernel
theorem dX1_answer_42 : decode cX1_answer 42 = .ok (.invokevirtual 30, 3) := by decide +kernel
theorem dX1_answer_45 : decode cX1_answer 45 = .ok (.ireturn, 1) := by decide +kernel
theorem dX1_answer_46 : decode cX1_answer 46 = .ok (.aload_n 0, 1) := by decide +kernel
theorem dX1_answer_47 : decode cX1_answer 47 = .ok (.iload_n 1, 1) := by decide +kernel
theorem dX1_answer_48 : decode cX1_answer 48 = .ok (.iload_n 2, 1) := by decide +kernel
theorem dX1_answer_49 : decode cX1_answer 49 = .ok (.invokevirtual 34, 3) := by decide +kernel
theorem dX1_answer_52 : decode cX1_answer 52 = .ok (.ireturn, 1) := by decide +kernel
theorem dX1_answer_53 : decode cX1_answer 53 = .ok (.aload_n 0, 1) := by decide +kernel
theorem dX1_answer_54 : decode cX1_answer 54 = .ok (.getfield 21, 3) := by decide +kernel
theorem dX1_answer_57 : decode cX1_answer 57 = .ok (.ifCond .ne 15, 3) := by decide +kernel
theorem dX1_answer_60 : decode cX1_answer 60 = .ok (.aload_n 0, 1) := by decide +kernel
theorem dX1_answer_61 : decode cX1_answer 61 = .ok (.getfield 18, 3) := by decide +kernel
theorem dX1_answer_64 : decode cX1_answer 64 = .ok (.iconst 3, 1) := by decide +kernel
theorem dX1_answer_65 : decode cX1_answer 65 = .ok (.if_icmp .ge 7, 3) := by decide +kernel
theorem dX1_answer_68 : decode cX1_answer 68 = .ok (.iconst (-1), 1) := by decide +kernel
theorem dX1_answer_69 : decode cX1_answer 69 = .ok (.goto 11, 3) := by decide +kernel
theorem dX1_answer_72 : decode cX1_answer 72 = .ok (.aload_n 0, 1) := by decide +kernel
theorem dX1_answer_73 : decode cX1_answer 73 = .ok (.getfield 15, 3) := by decide +kernel
theorem dX1_answer_76 : decode cX1_answer 76 = .ok (.iload_n 1, 1) := by decide +kernel
theorem dX1_answer_77 : decode cX1_answer 77 = .ok (.invokestatic 38, 3) := by decide +kernel
theorem dX1_answer_80 : decode cX1_answer 80 = .ok (.ireturn, 1) := by decide +kernel
theorem dX1_answer_81 : decode cX1_answer 81 = .ok (.aload_n 0, 1) := by decide +kernel
theorem dX1_answer_82 : decode cX1_answer 82 = .ok (.getfield 24, 3) := by decide +kernel
theorem dX1_answer_85 : decode cX1_answer 85 = .ok (.ifCond .ne 7, 3) := by decide +kernel
theorem dX1_answer_88 : decode cX1_answer 88 = .ok (.iconst (-1), 1) := by decide +kernel
theorem dX1_answer_89 : decode cX1_answer 89 = .ok (.goto 8, 3) := by decide +kernel
theorem dX1_answer_92 : decode cX1_answer 92 = .ok (.aload_n 0, 1) := by decide +kernel
theorem dX1_answer_93 : decode cX1_answer 93 = .ok (.iload_n 1, 1) := by decide +kernel
theorem dX1_answer_94 : decode cX1_answer 94 = .ok (.invokevirtual 30, 3) := by decide +kernel
theorem dX1_answer_97 : decode cX1_answer 97 = .ok (.ireturn, 1) := by decide +kernel
theorem dX1_answer_98 : decode cX1_answer 98 = .ok (.iload_n 1, 1) := by decide +kernel
theorem dX1_answer_99 : decode cX1_answer 99 = .ok (.bipush 7, 2) := by decide +kernel
theorem dX1_answer_101 : decode cX1_answer 101 = .ok (.if_icmp .ne 7, 3) := by decide +kernel
theorem dX1_answer_104 : decode cX1_answer 104 = .ok (.iconst 1, 1) := by decide +kernel
theorem dX1_answer_105 : decode cX1_answer 105 = .ok (.goto 9, 3) := by decide +kernel
theorem dX1_answer_108 : decode cX1_answer 108 = .ok (.aload_n 0, 1) := by decide +kernel
theorem dX1_answer_109 : decode cX1_answer 109 = .ok (.iload_n 1, 1) := by decide +kernel
theorem dX1_answer_110 : decode cX1_answer 110 = .ok (.iload_n 2, 1) := by decide +kernel
theorem dX1_answer_111 : decode cX1_answer 111 = .ok (.invokevirtual 34, 3) := by decide +kernel
theorem dX1_answer_114 : decode cX1_answer 114 = .ok (.ireturn, 1) := by decide +kernel
theorem dX1_answer_115 : decode cX1_answer 115 = .ok (.aload_n 0, 1) := by decide +kernel
theorem dX1_answer_116 : decode cX1_answer 116 = .ok (.getfield 15, 3) := by decide +kernel
theorem dX1_answer_119 : decode cX1_answer 119 = .ok (.iload_n 1, 1) := by decide +kernel
theorem dX1_answer_120 : decode cX1_answer 120 = .ok (.invokestatic 38, 3) := by decide +kernel
theorem dX1_answer_123 : decode cX1_answer 123 = .ok (.ireturn, 1) := by decide +kernel
theorem dX1_answerAsBowler_0 : decode cX1_answerAsBowler 0 = .ok (.aload_n 0, 1) := by decide +kernel
theorem dX1_answerAsBowler_1 : decode cX1_answerAsBowler 1 = .ok (.getfield 21, 3) := by decide +kernel
theorem dX1_answerAsBowler_4 : decode cX1_answerAsBowler 4 = .ok (.aload_n 0, 1) := by decide +kernel
theorem dX1_answerAsBowler_5 : decode cX1_answerAsBowler 5 = .ok (.getfield 18, 3) := by decide +kernel
theorem dX1_answerAsBowler_8 : decode cX1_answerAsBowler 8 = .ok (.if_icmp .le 16, 3) := by decide +kernel
theorem dX1_answerAsBowler_11 : decode cX1_answerAsBowler 11 = .ok (.iconst 1, 1) := by decide +kernel
theorem dX1_answerAsBowler_12 : decode cX1_answerAsBowler 12 = .ok (.aload_n 0, 1) := by decide +kernel
theorem dX1_answerAsBowler_13 : decode cX1_answerAsBowler 13 = .ok (.getfield 15, 3) := by decide +kernel
theorem dX1_answerAsBowler_16 : decode cX1_answerAsBowler 16 = .ok (.iload_n 1, 1) := by decide +kernel
theorem dX1_answerAsBowler_17 : decode cX1_answerAsBowler 17 = .ok (.invokestatic 38, 3) := by decide +kernel
theorem dX1_answerAsBowler_20 : decode cX1_answerAsBowler 20 = .ok (.isub, 1) := by decide +kernel
theorem dX1_answerAsBowler_21 : decode cX1_answerAsBowler 21 = .ok (.goto 11, 3) := by decide +kernel
theorem dX1_answerAsBowler_24 : decode cX1_answerAsBowler 24 = .ok (.aload_n 0, 1) := by decide +kernel
theorem dX1_answerAsBowler_25 : decode cX1_answerAsBowler 25 = .ok (.getfield 15, 3) := by decide +kernel
theorem dX1_answerAsBowler_28 : decode cX1_answerAsBowler 28 = .ok (.iload_n 1, 1) := by decide +kernel
theorem dX1_answerAsBowler_29 : decode cX1_answerAsBowler 29 = .ok (.invokestatic 38, 3) := by decide +kernel
theorem dX1_answerAsBowler_32 : decode cX1_answerAsBowler 32 = .ok (.ireturn, 1) := by decide +kernel
theorem dX1_answerAsCap_0 : decode cX1_answerAsCap 0 = .ok (.aload_n 0, 1) := by decide +kernel
theorem dX1_answerAsCap_1 : decode cX1_answerAsCap 1 = .ok (.getfield 24, 3) := by decide +kernel
theorem dX1_answerAsCap_4 : decode cX1_answerAsCap 4 = .ok (.bipush 30, 2) := by decide +kernel
theorem dX1_answerAsCap_6 : decode cX1_answerAsCap 6 = .ok (.if_icmp .ge 7, 3) := by decide +kernel
theorem dX1_answerAsCap_9 : decode cX1_answerAsCap 9 = .ok (.iload_n 2, 1) := by decide +kernel
theorem dX1_answerAsCap_10 : decode cX1_answerAsCap 10 = .ok (.goto 7, 3) := by decide +kernel
theorem dX1_answerAsCap_13 : decode cX1_answerAsCap 13 = .ok (.aload_n 0, 1) := by decide +kernel
theorem dX1_answerAsCap_14 : decode cX1_answerAsCap 14 = .ok (.getfield 15, 3) := by decide +kernel
theorem dX1_answerAsCap_17 : decode cX1_answerAsCap 17 = .ok (.iload_n 1, 1) := by decide +kernel
theorem dX1_answerAsCap_18 : decode cX1_answerAsCap 18 = .ok (.invokestatic 38, 3) := by decide +kernel
theorem dX1_answerAsCap_21 : decode cX1_answerAsCap 21 = .ok (.ireturn, 1) := by decide +kernel
theorem dX1_weight_0 : decode cX1_weight 0 = .ok (.aload_n 0, 1) := by decide +kernel
theorem dX1_weight_1 : decode cX1_weight 1 = .ok (.getfield 9, 3) := by decide +kernel
theorem dX1_weight_4 : decode cX1_weight 4 = .ok (.tableswitch 72 1 5 #[36, 72, 46, 48, 60], 36) := by decide +kernel
theorem dX1_weight_40 : decode cX1_weight 40 = .ok (.iconst 1, 1) := by decide +kernel
theorem dX1_weight_41 : decode cX1_weight 41 = .ok (.aload_n 0, 1) := by decide +kernel
theorem dX1_weight_42 : decode cX1_weight 42 = .ok (.getfield 24, 3) := by decide +kernel
theorem dX1_weight_45 : decode cX1_weight 45 = .ok (.bipush 50, 2) := by decide +kernel
theorem dX1_weight_47 : decode cX1_weight 47 = .ok (.idiv, 1) := by decide +kernel
theorem dX1_weight_48 : decode cX1_weight 48 = .ok (.iadd, 1) := by decide +kernel
theorem dX1_weight_49 : decode cX1_weight 49 = .ok (.ireturn, 1) := by decide +kernel
theorem dX1_weight_50 : decode cX1_weight 50 = .ok (.iconst 3, 1) := by decide +kernel
theorem dX1_weight_51 : decode cX1_weight 51 = .ok (.ireturn, 1) := by decide +kernel
theorem dX1_weight_52 : decode cX1_weight 52 = .ok (.iconst 2, 1) := by decide +kernel
theorem dX1_weight_53 : decode cX1_weight 53 = .ok (.iconst 1, 1) := by decide +kernel
theorem dX1_weight_54 : decode cX1_weight 54 = .ok (.aload_n 0, 1) := by decide +kernel
theorem dX1_weight_55 : decode cX1_weight 55 = .ok (.getfield 24, 3) := by decide +kernel
theorem dX1_weight_58 : decode cX1_weight 58 = .ok (.bipush 50, 2) := by decide +kernel
theorem dX1_weight_60 : decode cX1_weight 60 = .ok (.idiv, 1) := by decide +kernel
theorem dX1_weight_61 : decode cX1_weight 61 = .ok (.iadd, 1) := by decide +kernel
theorem dX1_weight_62 : decode cX1_weight 62 = .ok (.imul, 1) := by decide +kernel
theorem dX1_weight_63 : decode cX1_weight 63 = .ok (.ireturn, 1) := by decide +kernel
theorem dX1_weight_64 : decode cX1_weight 64 = .ok (.iload_n 1, 1) := by decide +kernel
theorem dX1_weight_65 : decode cX1_weight 65 = .ok (.iconst 3, 1) := by decide +kernel
theorem dX1_weight_66 : decode cX1_weight 66 = .ok (.irem, 1) := by decide +kernel
theorem dX1_weight_67 : decode cX1_weight 67 = .ok (.ifCond .ne 7, 3) := by decide +kernel
theorem dX1_weight_70 : decode cX1_weight 70 = .ok (.iconst 2, 1) := by decide +kernel
theorem dX1_weight_71 : decode cX1_weight 71 = .ok (.goto 4, 3) := by decide +kernel
theorem dX1_weight_74 : decode cX1_weight 74 = .ok (.iconst 1, 1) := by decide +kernel
theorem dX1_weight_75 : decode cX1_weight 75 = .ok (.ireturn, 1) := by decide +kernel
theorem dX1_weight_76 : decode cX1_weight 76 = .ok (.iconst 1, 1) := by decide +kernel
theorem dX1_weight_77 : decode cX1_weight 77 = .ok (.ireturn, 1) := by decide +kernel
theorem dX1_isLearning_0 : decode cX1_isLearning 0 = .ok (.aload_n 0, 1) := by decide +kernel
theorem dX1_isLearning_1 : decode cX1_isLearning 1 = .ok (.getfield 9, 3) := by decide +kernel
theorem dX1_isLearning_4 : decode cX1_isLearning 4 = .ok (.tableswitch 48 1 4 #[32, 48, 34, 36], 32) := by decide +kernel
theorem dX1_isLearning_36 : decode cX1_isLearning 36 = .ok (.iconst 1, 1) := by decide +kernel
theorem dX1_isLearning_37 : decode cX1_isLearning 37 = .ok (.ireturn, 1) := by decide +kernel
theorem dX1_isLearning_38 : decode cX1_isLearning 38 = .ok (.iconst 0, 1) := by decide +kernel
theorem dX1_isLearning_39 : decode cX1_isLearning 39 = .ok (.ireturn, 1) := by decide +kernel
theorem dX1_isLearning_40 : decode cX1_isLearning 40 = .ok (.iload_n 1, 1) := by decide +kernel
theorem dX1_isLearning_41 : decode cX1_isLearning 41 = .ok (.iconst 2, 1) := by decide +kernel
theorem dX1_isLearning_42 : decode cX1_isLearning 42 = .ok (.irem, 1) := by decide +kernel
theorem dX1_isLearning_43 : decode cX1_isLearning 43 = .ok (.ifCond .ne 7, 3) := by decide +kernel
theorem dX1_isLearning_46 : decode cX1_isLearning 46 = .ok (.iconst 1, 1) := by decide +kernel
theorem dX1_isLearning_47 : decode cX1_isLearning 47 = .ok (.goto 4, 3) := by decide +kernel
theorem dX1_isLearning_50 : decode cX1_isLearning 50 = .ok (.iconst 0, 1) := by decide +kernel
theorem dX1_isLearning_51 : decode cX1_isLearning 51 = .ok (.ireturn, 1) := by decide +kernel
theorem dX1_isLearning_52 : decode cX1_isLearning 52 = .ok (.aload_n 0, 1) := by decide +kernel
theorem dX1_isLearning_53 : decode cX1_isLearning 53 = .ok (.getfield 24, 3) := by decide +kernel
theorem dX1_isLearning_56 : decode cX1_isLearning 56 = .ok (.bipush 50, 2) := by decide +kernel
theorem dX1_isLearning_58 : decode cX1_isLearning 58 = .ok (.if_icmp .lt 7, 3) := by decide +kernel
theorem dX1_isLearning_61 : decode cX1_isLearning 61 = .ok (.iconst 1, 1) := by decide +kernel
theorem dX1_isLearning_62 : decode cX1_isLearning 62 = .ok (.goto 4, 3) := by decide +kernel
theorem dX1_isLearning_65 : decode cX1_isLearning 65 = .ok (.iconst 0, 1) := by decide +kernel
theorem dX1_isLearning_66 : decode cX1_isLearning 66 = .ok (.ireturn, 1) := by decide +kernel
theorem dX1_stir_0 : decode cX1_stir 0 = .ok (.aload_n 0, 1) := by decide +kernel
theorem dX1_stir_1 : decode cX1_stir 1 = .ok (.getfield 9, 3) := by decide +kernel
theorem dX1_stir_4 : decode cX1_stir 4 = .ok (.tableswitch 43 1 5 #[41, 36, 39, 41, 41], 36) := by decide +kernel
theorem dX1_stir_40 : decode cX1_stir 40 = .ok (.bipush 10, 2) := by decide +kernel
theorem dX1_stir_42 : decode cX1_stir 42 = .ok (.ireturn, 1) := by decide +kernel
theorem dX1_stir_43 : decode cX1_stir 43 = .ok (.iconst 1, 1) := by decide +kernel
theorem dX1_stir_44 : decode cX1_stir 44 = .ok (.ireturn, 1) := by decide +kernel
theorem dX1_stir_45 : decode cX1_stir 45 = .ok (.iconst 3, 1) := by decide +kernel
theorem dX1_stir_46 : decode cX1_stir 46 = .ok (.ireturn, 1) := by decide +kernel
theorem dX1_stir_47 : decode cX1_stir 47 = .ok (.iconst 5, 1) := by decide +kernel
theorem dX1_stir_48 : decode cX1_stir 48 = .ok (.ireturn, 1) := by decide +kernel
theorem dX1_beRight_0 : decode cX1_beRight 0 = .ok (.aload_n 0, 1) := by decide +kernel
theorem dX1_beRight_1 : decode cX1_beRight 1 = .ok (.aload_n 0, 1) := by decide +kernel
theorem dX1_beRight_2 : decode cX1_beRight 2 = .ok (.getfield 18, 3) := by decide +kernel
theorem dX1_beRight_5 : decode cX1_beRight 5 = .ok (.iconst 1, 1) := by decide +kernel
theorem dX1_beRight_6 : decode cX1_beRight 6 = .ok (.iadd, 1) := by decide +kernel
theorem dX1_beRight_7 : decode cX1_beRight 7 = .ok (.sipush 9999, 3) := by decide +kernel
theorem dX1_beRight_10 : decode cX1_beRight 10 = .ok (.invokestatic 41, 3) := by decide +kernel
theorem dX1_beRight_13 : decode cX1_beRight 13 = .ok (.putfield 18, 3) := by decide +kernel
theorem dX1_beRight_16 : decode cX1_beRight 16 = .ok (.aload_n 0, 1) := by decide +kernel
theorem dX1_beRight_17 : decode cX1_beRight 17 = .ok (.aload_n 0, 1) := by decide +kernel
theorem dX1_beRight_18 : decode cX1_beRight 18 = .ok (.getfield 24, 3) := by decide +kernel
theorem dX1_beRight_21 : decode cX1_beRight 21 = .ok (.aload_n 0, 1) := by decide +kernel
theorem dX1_beRight_22 : decode cX1_beRight 22 = .ok (.invokevirtual 46, 3) := by decide +kernel
theorem dX1_beRight_25 : decode cX1_beRight 25 = .ok (.iadd, 1) := by decide +kernel
theorem dX1_beRight_26 : decode cX1_beRight 26 = .ok (.bipush 99, 2) := by decide +kernel
theorem dX1_beRight_28 : decode cX1_beRight 28 = .ok (.invokestatic 41, 3) := by decide +kernel
theorem dX1_beRight_31 : decode cX1_beRight 31 = .ok (.putfield 24, 3) := by decide +kernel
theorem dX1_beRight_34 : decode cX1_beRight 34 = .ok (.return_, 1) := by decide +kernel
theorem dX1_beWrong_0 : decode cX1_beWrong 0 = .ok (.aload_n 0, 1) := by decide +kernel
theorem dX1_beWrong_1 : decode cX1_beWrong 1 = .ok (.iload_n 1, 1) := by decide +kernel
theorem dX1_beWrong_2 : decode cX1_beWrong 2 = .ok (.invokevirtual 50, 3) := by decide +kernel
theorem dX1_beWrong_5 : decode cX1_beWrong 5 = .ok (.ifCond .eq 26, 3) := by decide +kernel
theorem dX1_beWrong_8 : decode cX1_beWrong 8 = .ok (.iconst 1, 1) := by decide +kernel
theorem dX1_beWrong_9 : decode cX1_beWrong 9 = .ok (.iload_n 2, 1) := by decide +kernel
theorem dX1_beWrong_10 : decode cX1_beWrong 10 = .ok (.ishl, 1) := by decide +kernel
theorem dX1_beWrong_11 : decode cX1_beWrong 11 = .ok (.istore 4, 2) := by decide +kernel
theorem dX1_beWrong_13 : decode cX1_beWrong 13 = .ok (.aload_n 0, 1) := by decide +kernel
theorem dX1_beWrong_14 : decode cX1_beWrong 14 = .ok (.aload_n 0, 1) := by decide +kernel
theorem dX1_beWrong_15 : decode cX1_beWrong 15 = .ok (.getfield 15, 3) := by decide +kernel
theorem dX1_beWrong_18 : decode cX1_beWrong 18 = .ok (.iload 4, 2) := by decide +kernel
theorem dX1_beWrong_20 : decode cX1_beWrong 20 = .ok (.iconst (-1), 1) := by decide +kernel
theorem dX1_beWrong_21 : decode cX1_beWrong 21 = .ok (.ixor, 1) := by decide +kernel
theorem dX1_beWrong_22 : decode cX1_beWrong 22 = .ok (.iand, 1) := by decide +kernel
theorem dX1_beWrong_23 : decode cX1_beWrong 23 = .ok (.iload_n 3, 1) := by decide +kernel
theorem dX1_beWrong_24 : decode cX1_beWrong 24 = .ok (.iload 4, 2) := by decide +kernel
theorem dX1_beWrong_26 : decode cX1_beWrong 26 = .ok (.iand, 1) := by decide +kernel
theorem dX1_beWrong_27 : decode cX1_beWrong 27 = .ok (.ior, 1) := by decide +kernel
theorem dX1_beWrong_28 : decode cX1_beWrong 28 = .ok (.putfield 15, 3) := by decide +kernel
theorem dX1_beWrong_31 : decode cX1_beWrong 31 = .ok (.aload_n 0, 1) := by decide +kernel
theorem dX1_beWrong_32 : decode cX1_beWrong 32 = .ok (.aload_n 0, 1) := by decide +kernel
theorem dX1_beWrong_33 : decode cX1_beWrong 33 = .ok (.getfield 21, 3) := by decide +kernel
theorem dX1_beWrong_36 : decode cX1_beWrong 36 = .ok (.iconst 1, 1) := by decide +kernel
theorem dX1_beWrong_37 : decode cX1_beWrong 37 = .ok (.iadd, 1) := by decide +kernel
theorem dX1_beWrong_38 : decode cX1_beWrong 38 = .ok (.sipush 9999, 3) := by decide +kernel
theorem dX1_beWrong_41 : decode cX1_beWrong 41 = .ok (.invokestatic 41, 3) := by decide +kernel
theorem dX1_beWrong_44 : decode cX1_beWrong 44 = .ok (.putfield 21, 3) := by decide +kernel
theorem dX1_beWrong_47 : decode cX1_beWrong 47 = .ok (.aload_n 0, 1) := by decide +kernel
theorem dX1_beWrong_48 : decode cX1_beWrong 48 = .ok (.aload_n 0, 1) := by decide +kernel
theorem dX1_beWrong_49 : decode cX1_beWrong 49 = .ok (.getfield 24, 3) := by decide +kernel
theorem dX1_beWrong_52 : decode cX1_beWrong 52 = .ok (.aload_n 0, 1) := by decide +kernel
theorem dX1_beWrong_53 : decode cX1_beWrong 53 = .ok (.invokevirtual 46, 3) := by decide +kernel
theorem dX1_beWrong_56 : decode cX1_beWrong 56 = .ok (.isub, 1) := by decide +kernel
theorem dX1_beWrong_57 : decode cX1_beWrong 57 = .ok (.iconst 0, 1) := by decide +kernel
theorem dX1_beWrong_58 : decode cX1_beWrong 58 = .ok (.invokestatic 54, 3) := by decide +kernel
theorem dX1_beWrong_61 : decode cX1_beWrong 61 = .ok (.putfield 24, 3) := by decide +kernel
theorem dX1_beWrong_64 : decode cX1_beWrong 64 = .ok (.return_, 1) := by decide +kernel
theorem dX1_credit_0 : decode cX1_credit 0 = .ok (.aload_n 0, 1) := by decide +kernel
theorem dX1_credit_1 : decode cX1_credit 1 = .ok (.getfield 18, 3) := by decide +kernel
theorem dX1_credit_4 : decode cX1_credit 4 = .ok (.aload_n 0, 1) := by decide +kernel
theorem dX1_credit_5 : decode cX1_credit 5 = .ok (.getfield 21, 3) := by decide +kernel
theorem dX1_credit_8 : decode cX1_credit 8 = .ok (.isub, 1) := by decide +kernel
theorem dX1_credit_9 : decode cX1_credit 9 = .ok (.ireturn, 1) := by decide +kernel
theorem dX2_init_0 : decode cX2_init 0 = .ok (.aload_n 0, 1) := by decide +kernel
theorem dX2_init_1 : decode cX2_init 1 = .ok (.invokespecial 3, 3) := by decide +kernel
theorem dX2_init_4 : decode cX2_init 4 = .ok (.aload_n 0, 1) := by decide +kernel
theorem dX2_init_5 : decode cX2_init 5 = .ok (.bipush 40, 2) := by decide +kernel
theorem dX2_init_7 : decode cX2_init 7 = .ok (.newarray .long, 2) := by decide +kernel
theorem dX2_init_9 : decode cX2_init 9 = .ok (.putfield 9, 3) := by decide +kernel
theorem dX2_init_12 : decode cX2_init 12 = .ok (.return_, 1) := by decide +kernel
theorem dX2_mayHave_0 : decode cX2_mayHave 0 = .ok (.iload_n 0, 1) := by decide +kernel
theorem dX2_mayHave_1 : decode cX2_mayHave 1 = .ok (.ifCond .eq 21, 3) := by decide +kernel
theorem dX2_mayHave_4 : decode cX2_mayHave 4 = .ok (.iload_n 0, 1) := by decide +kernel
theorem dX2_mayHave_5 : decode cX2_mayHave 5 = .ok (.bipush 8, 2) := by decide +kernel
theorem dX2_mayHave_7 : decode cX2_mayHave 7 = .ok (.if_icmp .eq 15, 3) := by decide +kernel
theorem dX2_mayHave_10 : decode cX2_mayHave 10 = .ok (.iload_n 0, 1) := by decide +kernel
theorem dX2_mayHave_11 : decode cX2_mayHave 11 = .ok (.bipush 16, 2) := by decide +kernel
theorem dX2_mayHave_13 : decode cX2_mayHave 13 = .ok (.if_icmp .eq 9, 3) := by decide +kernel
theorem dX2_mayHave_16 : decode cX2_mayHave 16 = .ok (.iload_n 0, 1) := by decide +kernel
theorem dX2_mayHave_17 : decode cX2_mayHave 17 = .ok (.bipush 64, 2) := by decide +kernel
theorem dX2_mayHave_19 : decode cX2_mayHave 19 = .ok (.if_icmp .ne 7, 3) := by decide +kernel
theorem dX2_mayHave_22 : decode cX2_mayHave 22 = .ok (.iconst 1, 1) := by decide +kernel
theorem dX2_mayHave_23 : decode cX2_mayHave 23 = .ok (.goto 4, 3) := by decide +kernel
theorem dX2_mayHave_26 : decode cX2_mayHave 26 = .ok (.iconst 0, 1) := by decide +kernel
theorem dX2_mayHave_27 : decode cX2_mayHave 27 = .ok (.ireturn, 1) := by decide +kernel
theorem dX2_isMissing_0 : decode cX2_isMissing 0 = .ok (.aload_n 0, 1) := by decide +kernel
theorem dX2_isMissing_1 : decode cX2_isMissing 1 = .ok (.getfield 15, 3) := by decide +kernel
theorem dX2_isMissing_4 : decode cX2_isMissing 4 = .ok (.ifCond .ne 7, 3) := by decide +kernel
theorem dX2_isMissing_7 : decode cX2_isMissing 7 = .ok (.iconst 1, 1) := by decide +kernel
theorem dX2_isMissing_8 : decode cX2_isMissing 8 = .ok (.goto 4, 3) := by decide +kernel
theorem dX2_isMissing_11 : decode cX2_isMissing 11 = .ok (.iconst 0, 1) := by decide +kernel
theorem dX2_isMissing_12 : decode cX2_isMissing 12 = .ok (.ireturn, 1) := by decide +kernel
theorem dX2_begin_0 : decode cX2_begin 0 = .ok (.aload_n 0, 1) := by decide +kernel
theorem dX2_begin_1 : decode cX2_begin 1 = .ok (.iload_n 1, 1) := by decide +kernel
theorem dX2_begin_2 : decode cX2_begin 2 = .ok (.putfield 15, 3) := by decide +kernel
theorem dX2_begin_5 : decode cX2_begin 5 = .ok (.aload_n 0, 1) := by decide +kernel
theorem dX2_begin_6 : decode cX2_begin 6 = .ok (.aload_n 0, 1) := by decide +kernel
theorem dX2_begin_7 : decode cX2_begin 7 = .ok (.invokevirtual 19, 3) := by decide +kernel
theorem dX2_begin_10 : decode cX2_begin 10 = .ok (.ifCond .eq 7, 3) := by decide +kernel
theorem dX2_begin_13 : decode cX2_begin 13 = .ok (.iconst 0, 1) := by decide +kernel
theorem dX2_begin_14 : decode cX2_begin 14 = .ok (.goto 9, 3) := by decide +kernel
theorem dX2_begin_17 : decode cX2_begin 17 = .ok (.iload_n 2, 1) := by decide +kernel
theorem dX2_begin_18 : decode cX2_begin 18 = .ok (.bipush 40, 2) := by decide +kernel
theorem dX2_begin_20 : decode cX2_begin 20 = .ok (.invokestatic 23, 3) := by decide +kernel
theorem dX2_begin_23 : decode cX2_begin 23 = .ok (.putfield 29, 3) := by decide +kernel
theorem dX2_begin_26 : decode cX2_begin 26 = .ok (.aload_n 0, 1) := by decide +kernel
theorem dX2_begin_27 : decode cX2_begin 27 = .ok (.getfield 9, 3) := by decide +kernel
theorem dX2_begin_30 : decode cX2_begin 30 = .ok (.lconst 0, 1) := by decide +kernel
theorem dX2_begin_31 : decode cX2_begin 31 = .ok (.invokestatic 32, 3) := by decide +kernel
theorem dX2_begin_34 : decode cX2_begin 34 = .ok (.return_, 1) := by decide +kernel
theorem dX2_put_0 : decode cX2_put 0 = .ok (.iload_n 1, 1) := by decide +kernel
theorem dX2_put_1 : decode cX2_put 1 = .ok (.ifCond .lt 11, 3) := by decide +kernel
theorem dX2_put_4 : decode cX2_put 4 = .ok (.iload_n 1, 1) := by decide +kernel
theorem dX2_put_5 : decode cX2_put 5 = .ok (.aload_n 0, 1) := by decide +kernel
theorem dX2_put_6 : decode cX2_put 6 = .ok (.getfield 29, 3) := by decide +kernel
theorem dX2_put_9 : decode cX2_put 9 = .ok (.if_icmp .lt 4, 3) := by decide +kernel
theorem dX2_put_12 : decode cX2_put 12 = .ok (.return_, 1) := by decide +kernel
theorem dX2_put_13 : decode cX2_put 13 = .ok (.aload_n 0, 1) := by decide +kernel
theorem dX2_put_14 : decode cX2_put 14 = .ok (.getfield 15, 3) := by decide +kernel
theorem dX2_put_17 : decode cX2_put 17 = .ok (.bipush 8, 2) := by decide +kernel
theorem dX2_put_19 : decode cX2_put 19 = .ok (.if_icmp .ne 16, 3) := by decide +kernel
theorem dX2_put_22 : decode cX2_put 22 = .ok (.aload_n 0, 1) := by decide +kernel
theorem dX2_put_23 : decode cX2_put 23 = .ok (.getfield 9, 3) := by decide +kernel
theorem dX2_put_26 : decode cX2_put 26 = .ok (.iload_n 1, 1) := by decide +kernel
theorem dX2_put_27 : decode cX2_put 27 = .ok (.lload_n 2, 1) := by decide +kernel
theorem dX2_put_28 : decode cX2_put 28 = .ok (.l2i, 1) := by decide +kernel
theorem dX2_put_29 : decode cX2_put 29 = .ok (.i2b, 1) := by decide +kernel
theorem dX2_put_30 : decode cX2_put 30 = .ok (.i2l, 1) := by decide +kernel
theorem dX2_put_31 : decode cX2_put 31 = .ok (.lastore, 1) := by decide +kernel
theorem dX2_put_32 : decode cX2_put 32 = .ok (.goto 32, 3) := by decide +kernel
theorem dX2_put_35 : decode cX2_put 35 = .ok (.aload_n 0, 1) := by decide +kernel
theorem dX2_put_36 : decode cX2_put 36 = .ok (.getfield 15, 3) := by decide +kernel
theorem dX2_put_39 : decode cX2_put 39 = .ok (.bipush 16, 2) := by decide +kernel
theorem dX2_put_41 : decode cX2_put 41 = .ok (.if_icmp .ne 16, 3) := by decide +kernel
theorem dX2_put_44 : decode cX2_put 44 = .ok (.aload_n 0, 1) := by decide +kernel
theorem dX2_put_45 : decode cX2_put 45 = .ok (.getfield 9, 3) := by decide +kernel
theorem dX2_put_48 : decode cX2_put 48 = .ok (.iload_n 1, 1) := by decide +kernel
theorem dX2_put_49 : decode cX2_put 49 = .ok (.lload_n 2, 1) := by decide +kernel
theorem dX2_put_50 : decode cX2_put 50 = .ok (.l2i, 1) := by decide +kernel
theorem dX2_put_51 : decode cX2_put 51 = .ok (.i2s, 1) := by decide +kernel
theorem dX2_put_52 : decode cX2_put 52 = .ok (.i2l, 1) := by decide +kernel
theorem dX2_put_53 : decode cX2_put 53 = .ok (.lastore, 1) := by decide +kernel
theorem dX2_put_54 : decode cX2_put 54 = .ok (.goto 10, 3) := by decide +kernel
theorem dX2_put_57 : decode cX2_put 57 = .ok (.aload_n 0, 1) := by decide +kernel
theorem dX2_put_58 : decode cX2_put 58 = .ok (.getfield 9, 3) := by decide +kernel
theorem dX2_put_61 : decode cX2_put 61 = .ok (.iload_n 1, 1) := by decide +kernel
theorem dX2_put_62 : decode cX2_put 62 = .ok (.lload_n 2, 1) := by decide +kernel
theorem dX2_put_63 : decode cX2_put 63 = .ok (.lastore, 1) := by decide +kernel
theorem dX2_put_64 : decode cX2_put 64 = .ok (.return_, 1) := by decide +kernel
theorem dX2_hasRun_0 : decode cX2_hasRun 0 = .ok (.iload_n 1, 1) := by decide +kernel
theorem dX2_hasRun_1 : decode cX2_hasRun 1 = .ok (.ifCond .lt 29, 3) := by decide +kernel
theorem dX2_hasRun_4 : decode cX2_hasRun 4 = .ok (.iload_n 2, 1) := by decide +kernel
theorem dX2_hasRun_5 : decode cX2_hasRun 5 = .ok (.ifCond .lt 25, 3) := by decide +kernel
theorem dX2_hasRun_8 : decode cX2_hasRun 8 = .ok (.iload_n 2, 1) := by decide +kernel
theorem dX2_hasRun_9 : decode cX2_hasRun 9 = .ok (.aload_n 0, 1) := by decide +kernel
theorem dX2_hasRun_10 : decode cX2_hasRun 10 = .ok (.getfield 29, 3) := by decide +kernel
theorem dX2_hasRun_13 : decode cX2_hasRun 13 = .ok (.if_icmp .gt 17, 3) := by decide +kernel
theorem dX2_hasRun_16 : decode cX2_hasRun 16 = .ok (.iload_n 1, 1) := by decide +kernel
theorem dX2_hasRun_17 : decode cX2_hasRun 17 = .ok (.aload_n 0, 1) := by decide +kernel
theorem dX2_hasRun_18 : decode cX2_hasRun 18 = .ok (.getfield 29, 3) := by decide +kernel
theorem dX2_hasRun_21 : decode cX2_hasRun 21 = .ok (.iload_n 2, 1) := by decide +kernel
theorem dX2_hasRun_22 : decode cX2_hasRun 22 = .ok (.isub, 1) := by decide +kernel
theorem dX2_hasRun_23 : decode cX2_hasRun 23 = .ok (.if_icmp .gt 7, 3) := by decide +kernel
theorem dX2_hasRun_26 : decode cX2_hasRun 26 = .ok (.iconst 1, 1) := by decide +kernel
theorem dX2_hasRun_27 : decode cX2_hasRun 27 = .ok (.goto 4, 3) := by decide +kernel
theorem dX2_hasRun_30 : decode cX2_hasRun 30 = .ok (.iconst 0, 1) := by decide +kernel
theorem dX2_hasRun_31 : decode cX2_hasRun 31 = .ok (.ireturn, 1) := by decide +kernel
theorem dX3_init_0 : decode cX3_init 0 = .ok (.aload_n 0, 1) := by decide +kernel
theorem dX3_init_1 : decode cX3_init 1 = .ok (.invokespecial 3, 3) := by decide +kernel
theorem dX3_init_4 : decode cX3_init 4 = .ok (.aload_n 0, 1) := by decide +kernel
theorem dX3_init_5 : decode cX3_init 5 = .ok (.sipush 170, 3) := by decide +kernel
theorem dX3_init_8 : decode cX3_init 8 = .ok (.putfield 9, 3) := by decide +kernel
theorem dX3_init_11 : decode cX3_init 11 = .ok (.aload_n 0, 1) := by decide +kernel
theorem dX3_init_12 : decode cX3_init 12 = .ok (.bipush 10, 2) := by decide +kernel
theorem dX3_init_14 : decode cX3_init 14 = .ok (.anewarray 15, 3) := by decide +kernel
theorem dX3_init_17 : decode cX3_init 17 = .ok (.putfield 17, 3) := by decide +kernel
theorem dX3_init_20 : decode cX3_init 20 = .ok (.iconst 0, 1) := by decide +kernel
theorem dX3_init_21 : decode cX3_init 21 = .ok (.istore_n 1, 1) := by decide +kernel
theorem dX3_init_22 : decode cX3_init 22 = .ok (.iload_n 1, 1) := by decide +kernel
theorem dX3_init_23 : decode cX3_init 23 = .ok (.bipush 10, 2) := by decide +kernel
theorem dX3_init_25 : decode cX3_init 25 = .ok (.if_icmp .ge 22, 3) := by decide +kernel
theorem dX3_init_28 : decode cX3_init 28 = .ok (.aload_n 0, 1) := by decide +kernel
theorem dX3_init_29 : decode cX3_init 29 = .ok (.getfield 17, 3) := by decide +kernel
theorem dX3_init_32 : decode cX3_init 32 = .ok (.iload_n 1, 1) := by decide +kernel
theorem dX3_init_33 : decode cX3_init 33 = .ok (.new 15, 3) := by decide +kernel
theorem dX3_init_36 : decode cX3_init 36 = .ok (.dup, 1) := by decide +kernel
theorem dX3_init_37 : decode cX3_init 37 = .ok (.invokespecial 21, 3) := by decide +kernel
theorem dX3_init_40 : decode cX3_init 40 = .ok (.aastore, 1) := by decide +kernel
theorem dX3_init_41 : decode cX3_init 41 = .ok (.iinc 1 1, 3) := by decide +kernel
theorem dX3_init_44 : decode cX3_init 44 = .ok (.goto (-22), 3) := by decide +kernel
theorem dX3_init_47 : decode cX3_init 47 = .ok (.return_, 1) := by decide +kernel
theorem dX3_become_0 : decode cX3_become 0 = .ok (.aload_n 0, 1) := by decide +kernel
theorem dX3_become_1 : decode cX3_become 1 = .ok (.aload_n 1, 1) := by decide +kernel
theorem dX3_become_2 : decode cX3_become 2 = .ok (.getfield 22, 3) := by decide +kernel
theorem dX3_become_5 : decode cX3_become 5 = .ok (.putfield 22, 3) := by decide +kernel
theorem dX3_become_8 : decode cX3_become 8 = .ok (.aload_n 0, 1) := by decide +kernel
theorem dX3_become_9 : decode cX3_become 9 = .ok (.aload_n 1, 1) := by decide +kernel
theorem dX3_become_10 : decode cX3_become 10 = .ok (.getfield 9, 3) := by decide +kernel
theorem dX3_become_13 : decode cX3_become 13 = .ok (.putfield 9, 3) := by decide +kernel
theorem dX3_become_16 : decode cX3_become 16 = .ok (.aload_n 0, 1) := by decide +kernel
theorem dX3_become_17 : decode cX3_become 17 = .ok (.aload_n 1, 1) := by decide +kernel
theorem dX3_become_18 : decode cX3_become 18 = .ok (.getfield 25, 3) := by decide +kernel
theorem dX3_become_21 : decode cX3_become 21 = .ok (.putfield 25, 3) := by decide +kernel
theorem dX3_become_24 : decode cX3_become 24 = .ok (.aload_n 0, 1) := by decide +kernel
theorem dX3_become_25 : decode cX3_become 25 = .ok (.aload_n 1, 1) := by decide +kernel
theorem dX3_become_26 : decode cX3_become 26 = .ok (.getfield 28, 3) := by decide +kernel
theorem dX3_become_29 : decode cX3_become 29 = .ok (.putfield 28, 3) := by decide +kernel
theorem dX3_become_32 : decode cX3_become 32 = .ok (.iconst 0, 1) := by decide +kernel
theorem dX3_become_33 : decode cX3_become 33 = .ok (.istore_n 2, 1) := by decide +kernel
theorem dX3_become_34 : decode cX3_become 34 = .ok (.iload_n 2, 1) := by decide +kernel
theorem dX3_become_35 : decode cX3_become 35 = .ok (.aload_n 0, 1) := by decide +kernel
theorem dX3_become_36 : decode cX3_become 36 = .ok (.getfield 28, 3) := by decide +kernel
theorem dX3_become_39 : decode cX3_become 39 = .ok (.if_icmp .ge 24, 3) := by decide +kernel
theorem dX3_become_42 : decode cX3_become 42 = .ok (.aload_n 0, 1) := by decide +kernel
theorem dX3_become_43 : decode cX3_become 43 = .ok (.getfield 17, 3) := by decide +kernel
theorem dX3_become_46 : decode cX3_become 46 = .ok (.iload_n 2, 1) := by decide +kernel
theorem dX3_become_47 : decode cX3_become 47 = .ok (.aaload, 1) := by decide +kernel
theorem dX3_become_48 : decode cX3_become 48 = .ok (.aload_n 1, 1) := by decide +kernel
theorem dX3_become_49 : decode cX3_become 49 = .ok (.getfield 17, 3) := by decide +kernel
theorem dX3_become_52 : decode cX3_become 52 = .ok (.iload_n 2, 1) := by decide +kernel
theorem dX3_become_53 : decode cX3_become 53 = .ok (.aaload, 1) := by decide +kernel
theorem dX3_become_54 : decode cX3_become 54 = .ok (.invokevirtual 31, 3) := by decide +kernel
theorem dX3_become_57 : decode cX3_become 57 = .ok (.iinc 2 1, 3) := by decide +kernel
theorem dX3_become_60 : decode cX3_become 60 = .ok (.goto (-26), 3) := by decide +kernel
theorem dX3_become_63 : decode cX3_become 63 = .ok (.return_, 1) := by decide +kernel
theorem dX3_has_0 : decode cX3_has 0 = .ok (.iload_n 1, 1) := by decide +kernel
theorem dX3_has_1 : decode cX3_has 1 = .ok (.ifCond .lt 15, 3) := by decide +kernel
theorem dX3_has_4 : decode cX3_has 4 = .ok (.iload_n 1, 1) := by decide +kernel
theorem dX3_has_5 : decode cX3_has 5 = .ok (.aload_n 0, 1) := by decide +kernel
theorem dX3_has_6 : decode cX3_has 6 = .ok (.getfield 28, 3) := by decide +kernel
theorem dX3_has_9 : decode cX3_has 9 = .ok (.if_icmp .ge 7, 3) := by decide +kernel
theorem dX3_has_12 : decode cX3_has 12 = .ok (.iconst 1, 1) := by decide +kernel
theorem dX3_has_13 : decode cX3_has 13 = .ok (.goto 4, 3) := by decide +kernel
theorem dX3_has_16 : decode cX3_has 16 = .ok (.iconst 0, 1) := by decide +kernel
theorem dX3_has_17 : decode cX3_has 17 = .ok (.ireturn, 1) := by decide +kernel
theorem dX3_isFull_0 : decode cX3_isFull 0 = .ok (.aload_n 0, 1) := by decide +kernel
theorem dX3_isFull_1 : decode cX3_isFull 1 = .ok (.getfield 28, 3) := by decide +kernel
theorem dX3_isFull_4 : decode cX3_isFull 4 = .ok (.bipush 10, 2) := by decide +kernel
theorem dX3_isFull_6 : decode cX3_isFull 6 = .ok (.if_icmp .lt 7, 3) := by decide +kernel
theorem dX3_isFull_9 : decode cX3_isFull 9 = .ok (.iconst 1, 1) := by decide +kernel
theorem dX3_isFull_10 : decode cX3_isFull 10 = .ok (.goto 4, 3) := by decide +kernel
theorem dX3_isFull_13 : decode cX3_isFull 13 = .ok (.iconst 0, 1) := by decide +kernel
theorem dX3_isFull_14 : decode cX3_isFull 14 = .ok (.ireturn, 1) := by decide +kernel
theorem dX3_add_0 : decode cX3_add 0 = .ok (.aload_n 0, 1) := by decide +kernel
theorem dX3_add_1 : decode cX3_add 1 = .ok (.invokevirtual 35, 3) := by decide +kernel
theorem dX3_add_4 : decode cX3_add 4 = .ok (.ifCond .ne 27, 3) := by decide +kernel
theorem dX3_add_7 : decode cX3_add 7 = .ok (.aload_n 0, 1) := by decide +kernel
theorem dX3_add_8 : decode cX3_add 8 = .ok (.getfield 17, 3) := by decide +kernel
theorem dX3_add_11 : decode cX3_add 11 = .ok (.aload_n 0, 1) := by decide +kernel
theorem dX3_add_12 : decode cX3_add 12 = .ok (.getfield 28, 3) := by decide +kernel
theorem dX3_add_15 : decode cX3_add 15 = .ok (.aaload, 1) := by decide +kernel
theorem dX3_add_16 : decode cX3_add 16 = .ok (.iload_n 1, 1) := by decide +kernel
theorem dX3_add_17 : decode cX3_add 17 = .ok (.iload_n 2, 1) := by decide +kernel
theorem dX3_add_18 : decode cX3_add 18 = .ok (.invokevirtual 39, 3) := by decide +kernel
theorem dX3_add_21 : decode cX3_add 21 = .ok (.aload_n 0, 1) := by decide +kernel
theorem dX3_add_22 : decode cX3_add 22 = .ok (.dup, 1) := by decide +kernel
theorem dX3_add_23 : decode cX3_add 23 = .ok (.getfield 28, 3) := by decide +kernel
theorem dX3_add_26 : decode cX3_add 26 = .ok (.iconst 1, 1) := by decide +kernel
theorem dX3_add_27 : decode cX3_add 27 = .ok (.iadd, 1) := by decide +kernel
theorem dX3_add_28 : decode cX3_add 28 = .ok (.putfield 28, 3) := by decide +kernel
theorem dX3_add_31 : decode cX3_add 31 = .ok (.return_, 1) := by decide +kernel
theorem dX3_question_0 : decode cX3_question 0 = .ok (.aload_n 0, 1) := by decide +kernel
theorem dX3_question_1 : decode cX3_question 1 = .ok (.getfield 22, 3) := by decide +kernel
theorem dX3_question_4 : decode cX3_question 4 = .ok (.bipush 8, 2) := by decide +kernel
theorem dX3_question_6 : decode cX3_question 6 = .ok (.irem, 1) := by decide +kernel
theorem dX3_question_7 : decode cX3_question 7 = .ok (.ireturn, 1) := by decide +kernel
theorem dX3_trueOnes_0 : decode cX3_trueOnes 0 = .ok (.aload_n 0, 1) := by decide +kernel
theorem dX3_trueOnes_1 : decode cX3_trueOnes 1 = .ok (.getfield 25, 3) := by decide +kernel
theorem dX3_trueOnes_4 : decode cX3_trueOnes 4 = .ok (.aload_n 0, 1) := by decide +kernel
theorem dX3_trueOnes_5 : decode cX3_trueOnes 5 = .ok (.getfield 9, 3) := by decide +kernel
theorem dX3_trueOnes_8 : decode cX3_trueOnes 8 = .ok (.ixor, 1) := by decide +kernel
theorem dX3_trueOnes_9 : decode cX3_trueOnes 9 = .ok (.iconst (-1), 1) := by decide +kernel
theorem dX3_trueOnes_10 : decode cX3_trueOnes 10 = .ok (.ixor, 1) := by decide +kernel
theorem dX3_trueOnes_11 : decode cX3_trueOnes 11 = .ok (.sipush 255, 3) := by decide +kernel
theorem dX3_trueOnes_14 : decode cX3_trueOnes 14 = .ok (.iand, 1) := by decide +kernel
theorem dX3_trueOnes_15 : decode cX3_trueOnes 15 = .ok (.ireturn, 1) := by decide +kernel
theorem dX3_hatsOn_0 : decode cX3_hatsOn 0 = .ok (.iconst 0, 1) := by decide +kernel
theorem dX3_hatsOn_1 : decode cX3_hatsOn 1 = .ok (.istore_n 1, 1) := by decide +kernel
theorem dX3_hatsOn_2 : decode cX3_hatsOn 2 = .ok (.iconst 0, 1) := by decide +kernel
theorem dX3_hatsOn_3 : decode cX3_hatsOn 3 = .ok (.istore_n 2, 1) := by decide +kernel
theorem dX3_hatsOn_4 : decode cX3_hatsOn 4 = .ok (.iload_n 2, 1) := by decide +kernel
theorem dX3_hatsOn_5 : decode cX3_hatsOn 5 = .ok (.aload_n 0, 1) := by decide +kernel
theorem dX3_hatsOn_6 : decode cX3_hatsOn 6 = .ok (.getfield 28, 3) := by decide +kernel
theorem dX3_hatsOn_9 : decode cX3_hatsOn 9 = .ok (.if_icmp .ge 23, 3) := by decide +kernel
theorem dX3_hatsOn_12 : decode cX3_hatsOn 12 = .ok (.iload_n 1, 1) := by decide +kernel
theorem dX3_hatsOn_13 : decode cX3_hatsOn 13 = .ok (.aload_n 0, 1) := by decide +kernel
theorem dX3_hatsOn_14 : decode cX3_hatsOn 14 = .ok (.getfield 17, 3) := by decide +kernel
theorem dX3_hatsOn_17 : decode cX3_hatsOn 17 = .ok (.iload_n 2, 1) := by decide +kernel
theorem dX3_hatsOn_18 : decode cX3_hatsOn 18 = .ok (.aaload, 1) := by decide +kernel
theorem dX3_hatsOn_19 : decode cX3_hatsOn 19 = .ok (.getfield 43, 3) := by decide +kernel
theorem dX3_hatsOn_22 : decode cX3_hatsOn 22 = .ok (.iload_n 2, 1) := by decide +kernel
theorem dX3_hatsOn_23 : decode cX3_hatsOn 23 = .ok (.ishl, 1) := by decide +kernel
theorem dX3_hatsOn_24 : decode cX3_hatsOn 24 = .ok (.ior, 1) := by decide +kernel
theorem dX3_hatsOn_25 : decode cX3_hatsOn 25 = .ok (.istore_n 1, 1) := by decide +kernel
theorem dX3_hatsOn_26 : decode cX3_hatsOn 26 = .ok (.iinc 2 1, 3) := by decide +kernel
theorem dX3_hatsOn_29 : decode cX3_hatsOn 29 = .ok (.goto (-25), 3) := by decide +kernel
theorem dX3_hatsOn_32 : decode cX3_hatsOn 32 = .ok (.iload_n 1, 1) := by decide +kernel
theorem dX3_hatsOn_33 : decode cX3_hatsOn 33 = .ok (.ireturn, 1) := by decide +kernel
theorem dX3_sum_0 : decode cX3_sum 0 = .ok (.iconst 0, 1) := by decide +kernel
theorem dX3_sum_1 : decode cX3_sum 1 = .ok (.istore_n 2, 1) := by decide +kernel
theorem dX3_sum_2 : decode cX3_sum 2 = .ok (.iconst 0, 1) := by decide +kernel
theorem dX3_sum_3 : decode cX3_sum 3 = .ok (.istore_n 3, 1) := by decide +kernel
theorem dX3_sum_4 : decode cX3_sum 4 = .ok (.iload_n 3, 1) := by decide +kernel
theorem dX3_sum_5 : decode cX3_sum 5 = .ok (.aload_n 0, 1) := by decide +kernel
theorem dX3_sum_6 : decode cX3_sum 6 = .ok (.getfield 28, 3) := by decide +kernel
theorem dX3_sum_9 : decode cX3_sum 9 = .ok (.if_icmp .ge 22, 3) := by decide +kernel
theorem dX3_sum_12 : decode cX3_sum 12 = .ok (.iload_n 2, 1) := by decide +kernel
theorem dX3_sum_13 : decode cX3_sum 13 = .ok (.aload_n 0, 1) := by decide +kernel
theorem dX3_sum_14 : decode cX3_sum 14 = .ok (.getfield 17, 3) := by decide +kernel
theorem dX3_sum_17 : decode cX3_sum 17 = .ok (.iload_n 3, 1) := by decide +kernel
theorem dX3_sum_18 : decode cX3_sum 18 = .ok (.aaload, 1) := by decide +kernel
theorem dX3_sum_19 : decode cX3_sum 19 = .ok (.iload_n 1, 1) := by decide +kernel
theorem dX3_sum_20 : decode cX3_sum 20 = .ok (.invokevirtual 46, 3) := by decide +kernel
theorem dX3_sum_23 : decode cX3_sum 23 = .ok (.iadd, 1) := by decide +kernel
theorem dX3_sum_24 : decode cX3_sum 24 = .ok (.istore_n 2, 1) := by decide +kernel
theorem dX3_sum_25 : decode cX3_sum 25 = .ok (.iinc 3 1, 3) := by decide +kernel
theorem dX3_sum_28 : decode cX3_sum 28 = .ok (.goto (-24), 3) := by decide +kernel
theorem dX3_sum_31 : decode cX3_sum 31 = .ok (.iload_n 2, 1) := by decide +kernel
theorem dX3_sum_32 : decode cX3_sum 32 = .ok (.ireturn, 1) := by decide +kernel
theorem dX3_word_0 : decode cX3_word 0 = .ok (.aload_n 0, 1) := by decide +kernel
theorem dX3_word_1 : decode cX3_word 1 = .ok (.iload_n 1, 1) := by decide +kernel
theorem dX3_word_2 : decode cX3_word 2 = .ok (.invokevirtual 50, 3) := by decide +kernel
theorem dX3_word_5 : decode cX3_word 5 = .ok (.ifCond .eq 23, 3) := by decide +kernel
theorem dX3_word_8 : decode cX3_word 8 = .ok (.aload_n 0, 1) := by decide +kernel
theorem dX3_word_9 : decode cX3_word 9 = .ok (.getfield 17, 3) := by decide +kernel
theorem dX3_word_12 : decode cX3_word 12 = .ok (.iload_n 1, 1) := by decide +kernel
theorem dX3_word_13 : decode cX3_word 13 = .ok (.aaload, 1) := by decide +kernel
theorem dX3_word_14 : decode cX3_word 14 = .ok (.aload_n 0, 1) := by decide +kernel
theorem dX3_word_15 : decode cX3_word 15 = .ok (.invokevirtual 54, 3) := by decide +kernel
theorem dX3_word_18 : decode cX3_word 18 = .ok (.aload_n 0, 1) := by decide +kernel
theorem dX3_word_19 : decode cX3_word 19 = .ok (.getfield 25, 3) := by decide +kernel
theorem dX3_word_22 : decode cX3_word 22 = .ok (.invokevirtual 58, 3) := by decide +kernel
theorem dX3_word_25 : decode cX3_word 25 = .ok (.goto 4, 3) := by decide +kernel
theorem dX3_word_28 : decode cX3_word 28 = .ok (.iconst (-1), 1) := by decide +kernel
theorem dX3_word_29 : decode cX3_word 29 = .ok (.ireturn, 1) := by decide +kernel
theorem dX3_ask_0 : decode cX3_ask 0 = .ok (.aload_n 0, 1) := by decide +kernel
theorem dX3_ask_1 : decode cX3_ask 1 = .ok (.invokevirtual 54, 3) := by decide +kernel
theorem dX3_ask_4 : decode cX3_ask 4 = .ok (.istore_n 1, 1) := by decide +kernel
theorem dX3_ask_5 : decode cX3_ask 5 = .ok (.aload_n 0, 1) := by decide +kernel
theorem dX3_ask_6 : decode cX3_ask 6 = .ok (.iconst 0, 1) := by decide +kernel
theorem dX3_ask_7 : decode cX3_ask 7 = .ok (.putfield 62, 3) := by decide +kernel
theorem dX3_ask_10 : decode cX3_ask 10 = .ok (.aload_n 0, 1) := by decide +kernel
theorem dX3_ask_11 : decode cX3_ask 11 = .ok (.iconst 0, 1) := by decide +kernel
theorem dX3_ask_12 : decode cX3_ask 12 = .ok (.putfield 65, 3) := by decide +kernel
theorem dX3_ask_15 : decode cX3_ask 15 = .ok (.iconst 0, 1) := by decide +kernel
theorem dX3_ask_16 : decode cX3_ask 16 = .ok (.istore_n 2, 1) := by decide +kernel
theorem dX3_ask_17 : decode cX3_ask 17 = .ok (.iload_n 2, 1) := by decide +kernel
theorem dX3_ask_18 : decode cX3_ask 18 = .ok (.aload_n 0, 1) := by decide +kernel
theorem dX3_ask_19 : decode cX3_ask 19 = .ok (.getfield 28, 3) := by decide +kernel
theorem dX3_ask_22 : decode cX3_ask 22 = .ok (.if_icmp .ge 92, 3) := by decide +kernel
theorem dX3_ask_25 : decode cX3_ask 25 = .ok (.aload_n 0, 1) := by decide +kernel
theorem dX3_ask_26 : decode cX3_ask 26 = .ok (.getfield 17, 3) := by decide +kernel
theorem dX3_ask_29 : decode cX3_ask 29 = .ok (.iload_n 2, 1) := by decide +kernel
theorem dX3_ask_30 : decode cX3_ask 30 = .ok (.aaload, 1) := by decide +kernel
theorem dX3_ask_31 : decode cX3_ask 31 = .ok (.astore_n 3, 1) := by decide +kernel
theorem dX3_ask_32 : decode cX3_ask 32 = .ok (.aload_n 3, 1) := by decide +kernel
theorem dX3_ask_33 : decode cX3_ask 33 = .ok (.aload_n 3, 1) := by decide +kernel
theorem dX3_ask_34 : decode cX3_ask 34 = .ok (.getfield 43, 3) := by decide +kernel
theorem dX3_ask_37 : decode cX3_ask 37 = .ok (.ifCond .ne 7, 3) := by decide +kernel
theorem dX3_ask_40 : decode cX3_ask 40 = .ok (.iconst (-1), 1) := by decide +kernel
theorem dX3_ask_41 : decode cX3_ask 41 = .ok (.goto 12, 3) := by decide +kernel
theorem dX3_ask_44 : decode cX3_ask 44 = .ok (.aload_n 3, 1) := by decide +kernel
theorem dX3_ask_45 : decode cX3_ask 45 = .ok (.iload_n 1, 1) := by decide +kernel
theorem dX3_ask_46 : decode cX3_ask 46 = .ok (.aload_n 0, 1) := by decide +kernel
theorem dX3_ask_47 : decode cX3_ask 47 = .ok (.getfield 25, 3) := by decide +kernel
theorem dX3_ask_50 : decode cX3_ask 50 = .ok (.invokevirtual 58, 3) := by decide +kernel
theorem dX3_ask_53 : decode cX3_ask 53 = .ok (.putfield 68, 3) := by decide +kernel
theorem dX3_ask_56 : decode cX3_ask 56 = .ok (.aload_n 3, 1) := by decide +kernel
theorem dX3_ask_57 : decode cX3_ask 57 = .ok (.getfield 68, 3) := by decide +kernel
theorem dX3_ask_60 : decode cX3_ask 60 = .ok (.iconst 1, 1) := by decide +kernel
theorem dX3_ask_61 : decode cX3_ask 61 = .ok (.if_icmp .ne 23, 3) := by decide +kernel
theorem dX3_ask_64 : decode cX3_ask 64 = .ok (.aload_n 0, 1) := by decide +kernel
theorem dX3_ask_65 : decode cX3_ask 65 = .ok (.dup, 1) := by decide +kernel
theorem dX3_ask_66 : decode cX3_ask 66 = .ok (.getfield 62, 3) := by decide +kernel
theorem dX3_ask_69 : decode cX3_ask 69 = .ok (.aload_n 3, 1) := by decide +kernel
theorem dX3_ask_70 : decode cX3_ask 70 = .ok (.aload_n 0, 1) := by decide +kernel
theorem dX3_ask_71 : decode cX3_ask 71 = .ok (.getfield 22, 3) := by decide +kernel
theorem dX3_ask_74 : decode cX3_ask 74 = .ok (.invokevirtual 71, 3) := by decide +kernel
theorem dX3_ask_77 : decode cX3_ask 77 = .ok (.iadd, 1) := by decide +kernel
theorem dX3_ask_78 : decode cX3_ask 78 = .ok (.putfield 62, 3) := by decide +kernel
theorem dX3_ask_81 : decode cX3_ask 81 = .ok (.goto 27, 3) := by decide +kernel
theorem dX3_ask_84 : decode cX3_ask 84 = .ok (.aload_n 3, 1) := by decide +kernel
theorem dX3_ask_85 : decode cX3_ask 85 = .ok (.getfield 68, 3) := by decide +kernel
theorem dX3_ask_88 : decode cX3_ask 88 = .ok (.ifCond .ne 20, 3) := by decide +kernel
theorem dX3_ask_91 : decode cX3_ask 91 = .ok (.aload_n 0, 1) := by decide +kernel
theorem dX3_ask_92 : decode cX3_ask 92 = .ok (.dup, 1) := by decide +kernel
theorem dX3_ask_93 : decode cX3_ask 93 = .ok (.getfield 65, 3) := by decide +kernel
theorem dX3_ask_96 : decode cX3_ask 96 = .ok (.aload_n 3, 1) := by decide +kernel
theorem dX3_ask_97 : decode cX3_ask 97 = .ok (.aload_n 0, 1) := by decide +kernel
theorem dX3_ask_98 : decode cX3_ask 98 = .ok (.getfield 22, 3) := by decide +kernel
theorem dX3_ask_101 : decode cX3_ask 101 = .ok (.invokevirtual 71, 3) := by decide +kernel
theorem dX3_ask_104 : decode cX3_ask 104 = .ok (.iadd, 1) := by decide +kernel
theorem dX3_ask_105 : decode cX3_ask 105 = .ok (.putfield 65, 3) := by decide +kernel
theorem dX3_ask_108 : decode cX3_ask 108 = .ok (.iinc 2 1, 3) := by decide +kernel
theorem dX3_ask_111 : decode cX3_ask 111 = .ok (.goto (-94), 3) := by decide +kernel
theorem dX3_ask_114 : decode cX3_ask 114 = .ok (.return_, 1) := by decide +kernel
theorem dX3_verdict_0 : decode cX3_verdict 0 = .ok (.aload_n 0, 1) := by decide +kernel
theorem dX3_verdict_1 : decode cX3_verdict 1 = .ok (.getfield 62, 3) := by decide +kernel
theorem dX3_verdict_4 : decode cX3_verdict 4 = .ok (.aload_n 0, 1) := by decide +kernel
theorem dX3_verdict_5 : decode cX3_verdict 5 = .ok (.getfield 65, 3) := by decide +kernel
theorem dX3_verdict_8 : decode cX3_verdict 8 = .ok (.if_icmp .ne 15, 3) := by decide +kernel
theorem dX3_verdict_11 : decode cX3_verdict 11 = .ok (.aload_n 0, 1) := by decide +kernel
theorem dX3_verdict_12 : decode cX3_verdict 12 = .ok (.getfield 25, 3) := by decide +kernel
theorem dX3_verdict_15 : decode cX3_verdict 15 = .ok (.aload_n 0, 1) := by decide +kernel
theorem dX3_verdict_16 : decode cX3_verdict 16 = .ok (.invokevirtual 54, 3) := by decide +kernel
theorem dX3_verdict_19 : decode cX3_verdict 19 = .ok (.invokestatic 74, 3) := by decide +kernel
theorem dX3_verdict_22 : decode cX3_verdict 22 = .ok (.ireturn, 1) := by decide +kernel
theorem dX3_verdict_23 : decode cX3_verdict 23 = .ok (.aload_n 0, 1) := by decide +kernel
theorem dX3_verdict_24 : decode cX3_verdict 24 = .ok (.getfield 62, 3) := by decide +kernel
theorem dX3_verdict_27 : decode cX3_verdict 27 = .ok (.aload_n 0, 1) := by decide +kernel
theorem dX3_verdict_28 : decode cX3_verdict 28 = .ok (.getfield 65, 3) := by decide +kernel
theorem dX3_verdict_31 : decode cX3_verdict 31 = .ok (.if_icmp .le 7, 3) := by decide +kernel
theorem dX3_verdict_34 : decode cX3_verdict 34 = .ok (.iconst 1, 1) := by decide +kernel
theorem dX3_verdict_35 : decode cX3_verdict 35 = .ok (.goto 4, 3) := by decide +kernel
theorem dX3_verdict_38 : decode cX3_verdict 38 = .ok (.iconst 0, 1) := by decide +kernel
theorem dX3_verdict_39 : decode cX3_verdict 39 = .ok (.ireturn, 1) := by decide +kernel
theorem dX3_go_0 : decode cX3_go 0 = .ok (.iconst 0, 1) := by decide +kernel
theorem dX3_go_1 : decode cX3_go 1 = .ok (.istore_n 2, 1) := by decide +kernel
theorem dX3_go_2 : decode cX3_go 2 = .ok (.iload_n 2, 1) := by decide +kernel
theorem dX3_go_3 : decode cX3_go 3 = .ok (.iload_n 1, 1) := by decide +kernel
theorem dX3_go_4 : decode cX3_go 4 = .ok (.if_icmp .ge 79, 3) := by decide +kernel
theorem dX3_go_7 : decode cX3_go 7 = .ok (.aload_n 0, 1) := by decide +kernel
theorem dX3_go_8 : decode cX3_go 8 = .ok (.invokevirtual 54, 3) := by decide +kernel
theorem dX3_go_11 : decode cX3_go 11 = .ok (.istore_n 3, 1) := by decide +kernel
theorem dX3_go_12 : decode cX3_go 12 = .ok (.aload_n 0, 1) := by decide +kernel
theorem dX3_go_13 : decode cX3_go 13 = .ok (.invokevirtual 77, 3) := by decide +kernel
theorem dX3_go_16 : decode cX3_go 16 = .ok (.aload_n 0, 1) := by decide +kernel
theorem dX3_go_17 : decode cX3_go 17 = .ok (.aload_n 0, 1) := by decide +kernel
theorem dX3_go_18 : decode cX3_go 18 = .ok (.getfield 25, 3) := by decide +kernel
theorem dX3_go_21 : decode cX3_go 21 = .ok (.iconst 1, 1) := by decide +kernel
theorem dX3_go_22 : decode cX3_go 22 = .ok (.iload_n 3, 1) := by decide +kernel
theorem dX3_go_23 : decode cX3_go 23 = .ok (.ishl, 1) := by decide +kernel
theorem dX3_go_24 : decode cX3_go 24 = .ok (.iconst (-1), 1) := by decide +kernel
theorem dX3_go_25 : decode cX3_go 25 = .ok (.ixor, 1) := by decide +kernel
theorem dX3_go_26 : decode cX3_go 26 = .ok (.iand, 1) := by decide +kernel
theorem dX3_go_27 : decode cX3_go 27 = .ok (.aload_n 0, 1) := by decide +kernel
theorem dX3_go_28 : decode cX3_go 28 = .ok (.invokevirtual 80, 3) := by decide +kernel
theorem dX3_go_31 : decode cX3_go 31 = .ok (.iload_n 3, 1) := by decide +kernel
theorem dX3_go_32 : decode cX3_go 32 = .ok (.ishl, 1) := by decide +kernel
theorem dX3_go_33 : decode cX3_go 33 = .ok (.ior, 1) := by decide +kernel
theorem dX3_go_34 : decode cX3_go 34 = .ok (.putfield 25, 3) := by decide +kernel
theorem dX3_go_37 : decode cX3_go 37 = .ok (.iconst 0, 1) := by decide +kernel
theorem dX3_go_38 : decode cX3_go 38 = .ok (.istore 4, 2) := by decide +kernel
theorem dX3_go_40 : decode cX3_go 40 = .ok (.iload 4, 2) := by decide +kernel
theorem dX3_go_42 : decode cX3_go 42 = .ok (.aload_n 0, 1) := by decide +kernel
theorem dX3_go_43 : decode cX3_go 43 = .ok (.getfield 28, 3) := by decide +kernel
theorem dX3_go_46 : decode cX3_go 46 = .ok (.if_icmp .ge 21, 3) := by decide +kernel
theorem dX3_go_49 : decode cX3_go 49 = .ok (.aload_n 0, 1) := by decide +kernel
theorem dX3_go_50 : decode cX3_go 50 = .ok (.aload_n 0, 1) := by decide +kernel
theorem dX3_go_51 : decode cX3_go 51 = .ok (.getfield 17, 3) := by decide +kernel
theorem dX3_go_54 : decode cX3_go 54 = .ok (.iload 4, 2) := by decide +kernel
theorem dX3_go_56 : decode cX3_go 56 = .ok (.aaload, 1) := by decide +kernel
theorem dX3_go_57 : decode cX3_go 57 = .ok (.iload_n 3, 1) := by decide +kernel
theorem dX3_go_58 : decode cX3_go 58 = .ok (.invokevirtual 83, 3) := by decide +kernel
theorem dX3_go_61 : decode cX3_go 61 = .ok (.iinc 4 1, 3) := by decide +kernel
theorem dX3_go_64 : decode cX3_go 64 = .ok (.goto (-24), 3) := by decide +kernel
theorem dX3_go_67 : decode cX3_go 67 = .ok (.aload_n 0, 1) := by decide +kernel
theorem dX3_go_68 : decode cX3_go 68 = .ok (.dup, 1) := by decide +kernel
theorem dX3_go_69 : decode cX3_go 69 = .ok (.getfield 22, 3) := by decide +kernel
theorem dX3_go_72 : decode cX3_go 72 = .ok (.iconst 1, 1) := by decide +kernel
theorem dX3_go_73 : decode cX3_go 73 = .ok (.iadd, 1) := by decide +kernel
theorem dX3_go_74 : decode cX3_go 74 = .ok (.putfield 22, 3) := by decide +kernel
theorem dX3_go_77 : decode cX3_go 77 = .ok (.iinc 2 1, 3) := by decide +kernel
theorem dX3_go_80 : decode cX3_go 80 = .ok (.goto (-78), 3) := by decide +kernel
theorem dX3_go_83 : decode cX3_go 83 = .ok (.return_, 1) := by decide +kernel
theorem dX3_judge_0 : decode cX3_judge 0 = .ok (.aload_n 1, 1) := by decide +kernel
theorem dX3_judge_1 : decode cX3_judge 1 = .ok (.getfield 68, 3) := by decide +kernel
theorem dX3_judge_4 : decode cX3_judge 4 = .ok (.iconst (-1), 1) := by decide +kernel
theorem dX3_judge_5 : decode cX3_judge 5 = .ok (.if_icmp .ne 4, 3) := by decide +kernel
theorem dX3_judge_8 : decode cX3_judge 8 = .ok (.return_, 1) := by decide +kernel
theorem dX3_judge_9 : decode cX3_judge 9 = .ok (.aload_n 1, 1) := by decide +kernel
theorem dX3_judge_10 : decode cX3_judge 10 = .ok (.getfield 68, 3) := by decide +kernel
theorem dX3_judge_13 : decode cX3_judge 13 = .ok (.aload_n 0, 1) := by decide +kernel
theorem dX3_judge_14 : decode cX3_judge 14 = .ok (.getfield 9, 3) := by decide +kernel
theorem dX3_judge_17 : decode cX3_judge 17 = .ok (.iload_n 2, 1) := by decide +kernel
theorem dX3_judge_18 : decode cX3_judge 18 = .ok (.invokestatic 74, 3) := by decide +kernel
theorem dX3_judge_21 : decode cX3_judge 21 = .ok (.if_icmp .ne 10, 3) := by decide +kernel
theorem dX3_judge_24 : decode cX3_judge 24 = .ok (.aload_n 1, 1) := by decide +kernel
theorem dX3_judge_25 : decode cX3_judge 25 = .ok (.invokevirtual 87, 3) := by decide +kernel
theorem dX3_judge_28 : decode cX3_judge 28 = .ok (.goto 16, 3) := by decide +kernel
theorem dX3_judge_31 : decode cX3_judge 31 = .ok (.aload_n 1, 1) := by decide +kernel
theorem dX3_judge_32 : decode cX3_judge 32 = .ok (.aload_n 0, 1) := by decide +kernel
theorem dX3_judge_33 : decode cX3_judge 33 = .ok (.getfield 22, 3) := by decide +kernel
theorem dX3_judge_36 : decode cX3_judge 36 = .ok (.iload_n 2, 1) := by decide +kernel
theorem dX3_judge_37 : decode cX3_judge 37 = .ok (.aload_n 0, 1) := by decide +kernel
theorem dX3_judge_38 : decode cX3_judge 38 = .ok (.getfield 9, 3) := by decide +kernel
theorem dX3_judge_41 : decode cX3_judge 41 = .ok (.invokevirtual 90, 3) := by decide +kernel
theorem dX3_judge_44 : decode cX3_judge 44 = .ok (.return_, 1) := by decide +kernel
theorem dX4_init_0 : decode cX4_init 0 = .ok (.aload_n 0, 1) := by decide +kernel
theorem dX4_init_1 : decode cX4_init 1 = .ok (.invokespecial 3, 3) := by decide +kernel
theorem dX4_init_4 : decode cX4_init 4 = .ok (.aload_n 0, 1) := by decide +kernel
theorem dX4_init_5 : decode cX4_init 5 = .ok (.bipush 120, 2) := by decide +kernel
theorem dX4_init_7 : decode cX4_init 7 = .ok (.newarray .int, 2) := by decide +kernel
theorem dX4_init_9 : decode cX4_init 9 = .ok (.putfield 9, 3) := by decide +kernel
theorem dX4_init_12 : decode cX4_init 12 = .ok (.return_, 1) := by decide +kernel
theorem dX4_add_0 : decode cX4_add 0 = .ok (.aload_n 0, 1) := by decide +kernel
theorem dX4_add_1 : decode cX4_add 1 = .ok (.getfield 15, 3) := by decide +kernel
theorem dX4_add_4 : decode cX4_add 4 = .ok (.bipush 120, 2) := by decide +kernel
theorem dX4_add_6 : decode cX4_add 6 = .ok (.if_icmp .ge 23, 3) := by decide +kernel
theorem dX4_add_9 : decode cX4_add 9 = .ok (.aload_n 0, 1) := by decide +kernel
theorem dX4_add_10 : decode cX4_add 10 = .ok (.getfield 9, 3) := by decide +kernel
theorem dX4_add_13 : decode cX4_add 13 = .ok (.aload_n 0, 1) := by decide +kernel
theorem dX4_add_14 : decode cX4_add 14 = .ok (.getfield 15, 3) := by decide +kernel
theorem dX4_add_17 : decode cX4_add 17 = .ok (.iload_n 1, 1) := by decide +kernel
theorem dX4_add_18 : decode cX4_add 18 = .ok (.iastore, 1) := by decide +kernel
theorem dX4_add_19 : decode cX4_add 19 = .ok (.aload_n 0, 1) := by decide +kernel
theorem dX4_add_20 : decode cX4_add 20 = .ok (.dup, 1) := by decide +kernel
theorem dX4_add_21 : decode cX4_add 21 = .ok (.getfield 15, 3) := by decide +kernel
theorem dX4_add_24 : decode cX4_add 24 = .ok (.iconst 1, 1) := by decide +kernel
theorem dX4_add_25 : decode cX4_add 25 = .ok (.iadd, 1) := by decide +kernel
theorem dX4_add_26 : decode cX4_add 26 = .ok (.putfield 15, 3) := by decide +kernel
theorem dX4_add_29 : decode cX4_add 29 = .ok (.return_, 1) := by decide +kernel
theorem dX4_isAt_0 : decode cX4_isAt 0 = .ok (.iload_n 1, 1) := by decide +kernel
theorem dX4_isAt_1 : decode cX4_isAt 1 = .ok (.ifCond .lt 35, 3) := by decide +kernel
theorem dX4_isAt_4 : decode cX4_isAt 4 = .ok (.iload_n 1, 1) := by decide +kernel
theorem dX4_isAt_5 : decode cX4_isAt 5 = .ok (.aload_n 0, 1) := by decide +kernel
theorem dX4_isAt_6 : decode cX4_isAt 6 = .ok (.getfield 15, 3) := by decide +kernel
theorem dX4_isAt_9 : decode cX4_isAt 9 = .ok (.if_icmp .ge 27, 3) := by decide +kernel
theorem dX4_isAt_12 : decode cX4_isAt 12 = .ok (.aload_n 0, 1) := by decide +kernel
theorem dX4_isAt_13 : decode cX4_isAt 13 = .ok (.getfield 9, 3) := by decide +kernel
theorem dX4_isAt_16 : decode cX4_isAt 16 = .ok (.iload_n 1, 1) := by decide +kernel
theorem dX4_isAt_17 : decode cX4_isAt 17 = .ok (.iaload, 1) := by decide +kernel
theorem dX4_isAt_18 : decode cX4_isAt 18 = .ok (.iload_n 2, 1) := by decide +kernel
theorem dX4_isAt_19 : decode cX4_isAt 19 = .ok (.if_icmp .lt 17, 3) := by decide +kernel
theorem dX4_isAt_22 : decode cX4_isAt 22 = .ok (.aload_n 0, 1) := by decide +kernel
theorem dX4_isAt_23 : decode cX4_isAt 23 = .ok (.getfield 9, 3) := by decide +kernel
theorem dX4_isAt_26 : decode cX4_isAt 26 = .ok (.iload_n 1, 1) := by decide +kernel
theorem dX4_isAt_27 : decode cX4_isAt 27 = .ok (.iaload, 1) := by decide +kernel
theorem dX4_isAt_28 : decode cX4_isAt 28 = .ok (.iload_n 3, 1) := by decide +kernel
theorem dX4_isAt_29 : decode cX4_isAt 29 = .ok (.if_icmp .gt 7, 3) := by decide +kernel
theorem dX4_isAt_32 : decode cX4_isAt 32 = .ok (.iconst 1, 1) := by decide +kernel
theorem dX4_isAt_33 : decode cX4_isAt 33 = .ok (.goto 4, 3) := by decide +kernel
theorem dX4_isAt_36 : decode cX4_isAt 36 = .ok (.iconst 0, 1) := by decide +kernel
theorem dX4_isAt_37 : decode cX4_isAt 37 = .ok (.ireturn, 1) := by decide +kernel
theorem dX4_endOfRun_0 : decode cX4_endOfRun 0 = .ok (.iload_n 1, 1) := by decide +kernel
theorem dX4_endOfRun_1 : decode cX4_endOfRun 1 = .ok (.ifCond .ge 7, 3) := by decide +kernel
theorem dX4_endOfRun_4 : decode cX4_endOfRun 4 = .ok (.iconst 0, 1) := by decide +kernel
theorem dX4_endOfRun_5 : decode cX4_endOfRun 5 = .ok (.goto 4, 3) := by decide +kernel
theorem dX4_endOfRun_8 : decode cX4_endOfRun 8 = .ok (.iload_n 1, 1) := by decide +kernel
theorem dX4_endOfRun_9 : decode cX4_endOfRun 9 = .ok (.istore 4, 2) := by decide +kernel
theorem dX4_endOfRun_11 : decode cX4_endOfRun 11 = .ok (.iload 4, 2) := by decide +kernel
theorem dX4_endOfRun_13 : decode cX4_endOfRun 13 = .ok (.aload_n 0, 1) := by decide +kernel
theorem dX4_endOfRun_14 : decode cX4_endOfRun 14 = .ok (.getfield 15, 3) := by decide +kernel
theorem dX4_endOfRun_17 : decode cX4_endOfRun 17 = .ok (.if_icmp .ge 31, 3) := by decide +kernel
theorem dX4_endOfRun_20 : decode cX4_endOfRun 20 = .ok (.aload_n 0, 1) := by decide +kernel
theorem dX4_endOfRun_21 : decode cX4_endOfRun 21 = .ok (.getfield 9, 3) := by decide +kernel
theorem dX4_endOfRun_24 : decode cX4_endOfRun 24 = .ok (.iload 4, 2) := by decide +kernel
theorem dX4_endOfRun_26 : decode cX4_endOfRun 26 = .ok (.iaload, 1) := by decide +kernel
theorem dX4_endOfRun_27 : decode cX4_endOfRun 27 = .ok (.iload_n 2, 1) := by decide +kernel
theorem dX4_endOfRun_28 : decode cX4_endOfRun 28 = .ok (.if_icmp .lt 20, 3) := by decide +kernel
theorem dX4_endOfRun_31 : decode cX4_endOfRun 31 = .ok (.aload_n 0, 1) := by decide +kernel
theorem dX4_endOfRun_32 : decode cX4_endOfRun 32 = .ok (.getfield 9, 3) := by decide +kernel
theorem dX4_endOfRun_35 : decode cX4_endOfRun 35 = .ok (.iload 4, 2) := by decide +kernel
theorem dX4_endOfRun_37 : decode cX4_endOfRun 37 = .ok (.iaload, 1) := by decide +kernel
theorem dX4_endOfRun_38 : decode cX4_endOfRun 38 = .ok (.iload_n 3, 1) := by decide +kernel
theorem dX4_endOfRun_39 : decode cX4_endOfRun 39 = .ok (.if_icmp .gt 9, 3) := by decide +kernel
theorem dX4_endOfRun_42 : decode cX4_endOfRun 42 = .ok (.iinc 4 1, 3) := by decide +kernel
theorem dX4_endOfRun_45 : decode cX4_endOfRun 45 = .ok (.goto (-34), 3) := by decide +kernel
theorem dX4_endOfRun_48 : decode cX4_endOfRun 48 = .ok (.iload 4, 2) := by decide +kernel
theorem dX4_endOfRun_50 : decode cX4_endOfRun 50 = .ok (.ireturn, 1) := by decide +kernel
theorem dX5_init_0 : decode cX5_init 0 = .ok (.aload_n 0, 1) := by decide +kernel
theorem dX5_init_1 : decode cX5_init 1 = .ok (.invokespecial 1, 3) := by decide +kernel
theorem dX5_init_4 : decode cX5_init 4 = .ok (.aload_n 0, 1) := by decide +kernel
theorem dX5_init_5 : decode cX5_init 5 = .ok (.new 7, 3) := by decide +kernel
theorem dX5_init_8 : decode cX5_init 8 = .ok (.dup, 1) := by decide +kernel
theorem dX5_init_9 : decode cX5_init 9 = .ok (.invokespecial 9, 3) := by decide +kernel
theorem dX5_init_12 : decode cX5_init 12 = .ok (.putfield 10, 3) := by decide +kernel
theorem dX5_init_15 : decode cX5_init 15 = .ok (.aload_n 0, 1) := by decide +kernel
theorem dX5_init_16 : decode cX5_init 16 = .ok (.new 7, 3) := by decide +kernel
theorem dX5_init_19 : decode cX5_init 19 = .ok (.dup, 1) := by decide +kernel
theorem dX5_init_20 : decode cX5_init 20 = .ok (.invokespecial 9, 3) := by decide +kernel
theorem dX5_init_23 : decode cX5_init 23 = .ok (.putfield 16, 3) := by decide +kernel
theorem dX5_init_26 : decode cX5_init 26 = .ok (.aload_n 0, 1) := by decide +kernel
theorem dX5_init_27 : decode cX5_init 27 = .ok (.new 7, 3) := by decide +kernel
theorem dX5_init_30 : decode cX5_init 30 = .ok (.dup, 1) := by decide +kernel
theorem dX5_init_31 : decode cX5_init 31 = .ok (.invokespecial 9, 3) := by decide +kernel
theorem dX5_init_34 : decode cX5_init 34 = .ok (.putfield 19, 3) := by decide +kernel
theorem dX5_init_37 : decode cX5_init 37 = .ok (.aload_n 0, 1) := by decide +kernel
theorem dX5_init_38 : decode cX5_init 38 = .ok (.new 22, 3) := by decide +kernel
theorem dX5_init_41 : decode cX5_init 41 = .ok (.dup, 1) := by decide +kernel
theorem dX5_init_42 : decode cX5_init 42 = .ok (.invokespecial 24, 3) := by decide +kernel
theorem dX5_init_45 : decode cX5_init 45 = .ok (.putfield 25, 3) := by decide +kernel
theorem dX5_init_48 : decode cX5_init 48 = .ok (.aload_n 0, 1) := by decide +kernel
theorem dX5_init_49 : decode cX5_init 49 = .ok (.iconst 4, 1) := by decide +kernel
theorem dX5_init_50 : decode cX5_init 50 = .ok (.anewarray 29, 3) := by decide +kernel
theorem dX5_init_53 : decode cX5_init 53 = .ok (.putfield 31, 3) := by decide +kernel
theorem dX5_init_56 : decode cX5_init 56 = .ok (.aload_n 0, 1) := by decide +kernel
theorem dX5_init_57 : decode cX5_init 57 = .ok (.bipush 7, 2) := by decide +kernel
theorem dX5_init_59 : decode cX5_init 59 = .ok (.newarray .int, 2) := by decide +kernel
theorem dX5_init_61 : decode cX5_init 61 = .ok (.putfield 35, 3) := by decide +kernel
theorem dX5_init_64 : decode cX5_init 64 = .ok (.iconst 0, 1) := by decide +kernel
theorem dX5_init_65 : decode cX5_init 65 = .ok (.istore_n 1, 1) := by decide +kernel
theorem dX5_init_66 : decode cX5_init 66 = .ok (.iload_n 1, 1) := by decide +kernel
theorem dX5_init_67 : decode cX5_init 67 = .ok (.iconst 4, 1) := by decide +kernel
theorem dX5_init_68 : decode cX5_init 68 = .ok (.if_icmp .ge 22, 3) := by decide +kernel
theorem dX5_init_71 : decode cX5_init 71 = .ok (.aload_n 0, 1) := by decide +kernel
theorem dX5_init_72 : decode cX5_init 72 = .ok (.getfield 31, 3) := by decide +kernel
theorem dX5_init_75 : decode cX5_init 75 = .ok (.iload_n 1, 1) := by decide +kernel
theorem dX5_init_76 : decode cX5_init 76 = .ok (.new 29, 3) := by decide +kernel
theorem dX5_init_79 : decode cX5_init 79 = .ok (.dup, 1) := by decide +kernel
theorem dX5_init_80 : decode cX5_init 80 = .ok (.invokespecial 39, 3) := by decide +kernel
theorem dX5_init_83 : decode cX5_init 83 = .ok (.aastore, 1) := by decide +kernel
theorem dX5_init_84 : decode cX5_init 84 = .ok (.iinc 1 1, 3) := by decide +kernel
theorem dX5_init_87 : decode cX5_init 87 = .ok (.goto (-21), 3) := by decide +kernel
theorem dX5_init_90 : decode cX5_init 90 = .ok (.return_, 1) := by decide +kernel
theorem dX5_holds_0 : decode cX5_holds 0 = .ok (.iload_n 1, 1) := by decide +kernel
theorem dX5_holds_1 : decode cX5_holds 1 = .ok (.iconst 0, 1) := by decide +kernel
theorem dX5_holds_2 : decode cX5_holds 2 = .ok (.iconst 1, 1) := by decide +kernel
theorem dX5_holds_3 : decode cX5_holds 3 = .ok (.invokestatic 40, 3) := by decide +kernel
theorem dX5_holds_6 : decode cX5_holds 6 = .ok (.ifCond .ne 14, 3) := by decide +kernel
theorem dX5_holds_9 : decode cX5_holds 9 = .ok (.iload_n 2, 1) := by decide +kernel
theorem dX5_holds_10 : decode cX5_holds 10 = .ok (.iconst 0, 1) := by decide +kernel
theorem dX5_holds_11 : decode cX5_holds 11 = .ok (.sipush 255, 3) := by decide +kernel
theorem dX5_holds_14 : decode cX5_holds 14 = .ok (.invokestatic 40, 3) := by decide +kernel
theorem dX5_holds_17 : decode cX5_holds 17 = .ok (.ifCond .eq 10, 3) := by decide +kernel
theorem dX5_holds_20 : decode cX5_holds 20 = .ok (.aload_n 0, 1) := by decide +kernel
theorem dX5_holds_21 : decode cX5_holds 21 = .ok (.ldc 44, 2) := by decide +kernel
theorem dX5_holds_23 : decode cX5_holds 23 = .ok (.invokevirtual 45, 3) := by decide +kernel
theorem dX5_holds_26 : decode cX5_holds 26 = .ok (.ireturn, 1) := by decide +kernel
theorem dX5_holds_27 : decode cX5_holds 27 = .ok (.iload_n 1, 1) := by decide +kernel
theorem dX5_holds_28 : decode cX5_holds 28 = .ok (.ifCond .ne 13, 3) := by decide +kernel
theorem dX5_holds_31 : decode cX5_holds 31 = .ok (.aload_n 0, 1) := by decide +kernel
theorem dX5_holds_32 : decode cX5_holds 32 = .ok (.getfield 10, 3) := by decide +kernel
theorem dX5_holds_35 : decode cX5_holds 35 = .ok (.getfield 49, 3) := by decide +kernel
theorem dX5_holds_38 : decode cX5_holds 38 = .ok (.goto 10, 3) := by decide +kernel
theorem dX5_holds_41 : decode cX5_holds 41 = .ok (.aload_n 0, 1) := by decide +kernel
theorem dX5_holds_42 : decode cX5_holds 42 = .ok (.getfield 10, 3) := by decide +kernel
theorem dX5_holds_45 : decode cX5_holds 45 = .ok (.getfield 53, 3) := by decide +kernel
theorem dX5_holds_48 : decode cX5_holds 48 = .ok (.istore_n 3, 1) := by decide +kernel
theorem dX5_holds_49 : decode cX5_holds 49 = .ok (.iload_n 1, 1) := by decide +kernel
theorem dX5_holds_50 : decode cX5_holds 50 = .ok (.ifCond .ne 14, 3) := by decide +kernel
theorem dX5_holds_53 : decode cX5_holds 53 = .ok (.aload_n 0, 1) := by decide +kernel
theorem dX5_holds_54 : decode cX5_holds 54 = .ok (.getfield 10, 3) := by decide +kernel
theorem dX5_holds_57 : decode cX5_holds 57 = .ok (.iload_n 2, 1) := by decide +kernel
theorem dX5_holds_58 : decode cX5_holds 58 = .ok (.putfield 49, 3) := by decide +kernel
theorem dX5_holds_61 : decode cX5_holds 61 = .ok (.goto 11, 3) := by decide +kernel
theorem dX5_holds_64 : decode cX5_holds 64 = .ok (.aload_n 0, 1) := by decide +kernel
theorem dX5_holds_65 : decode cX5_holds 65 = .ok (.getfield 10, 3) := by decide +kernel
theorem dX5_holds_68 : decode cX5_holds 68 = .ok (.iload_n 2, 1) := by decide +kernel
theorem dX5_holds_69 : decode cX5_holds 69 = .ok (.putfield 53, 3) := by decide +kernel
theorem dX5_holds_72 : decode cX5_holds 72 = .ok (.iload_n 3, 1) := by decide +kernel
theorem dX5_holds_73 : decode cX5_holds 73 = .ok (.ireturn, 1) := by decide +kernel
theorem dX5_now_0 : decode cX5_now 0 = .ok (.iload_n 1, 1) := by decide +kernel
theorem dX5_now_1 : decode cX5_now 1 = .ok (.tableswitch 125 0 7 #[47, 55, 63, 71, 79, 94, 109, 117], 47) := by decide +kernel
theorem dX5_now_48 : decode cX5_now 48 = .ok (.aload_n 0, 1) := by decide +kernel
theorem dX5_now_49 : decode cX5_now 49 = .ok (.getfield 10, 3) := by decide +kernel
theorem dX5_now_52 : decode cX5_now 52 = .ok (.getfield 56, 3) := by decide +kernel
theorem dX5_now_55 : decode cX5_now 55 = .ok (.ireturn, 1) := by decide +kernel
theorem dX5_now_56 : decode cX5_now 56 = .ok (.aload_n 0, 1) := by decide +kernel
theorem dX5_now_57 : decode cX5_now 57 = .ok (.getfield 10, 3) := by decide +kernel
theorem dX5_now_60 : decode cX5_now 60 = .ok (.invokevirtual 59, 3) := by decide +kernel
theorem dX5_now_63 : decode cX5_now 63 = .ok (.ireturn, 1) := by decide +kernel
theorem dX5_now_64 : decode cX5_now 64 = .ok (.aload_n 0, 1) := by decide +kernel
theorem dX5_now_65 : decode cX5_now 65 = .ok (.getfield 10, 3) := by decide +kernel
theorem dX5_now_68 : decode cX5_now 68 = .ok (.getfield 49, 3) := by decide +kernel
theorem dX5_now_71 : decode cX5_now 71 = .ok (.ireturn, 1) := by decide +kernel
theorem dX5_now_72 : decode cX5_now 72 = .ok (.aload_n 0, 1) := by decide +kernel
theorem dX5_now_73 : decode cX5_now 73 = .ok (.getfield 10, 3) := by decide +kernel
theorem dX5_now_76 : decode cX5_now 76 = .ok (.getfield 53, 3) := by decide +kernel
theorem dX5_now_79 : decode cX5_now 79 = .ok (.ireturn, 1) := by decide +kernel
theorem dX5_now_80 : decode cX5_now 80 = .ok (.aload_n 0, 1) := by decide +kernel
theorem dX5_now_81 : decode cX5_now 81 = .ok (.getfield 10, 3) := by decide +kernel
theorem dX5_now_84 : decode cX5_now 84 = .ok (.invokevirtual 63, 3) := by decide +kernel
theorem dX5_now_87 : decode cX5_now 87 = .ok (.aload_n 0, 1) := by decide +kernel
theorem dX5_now_88 : decode cX5_now 88 = .ok (.getfield 10, 3) := by decide +kernel
theorem dX5_now_91 : decode cX5_now 91 = .ok (.getfield 66, 3) := by decide +kernel
theorem dX5_now_94 : decode cX5_now 94 = .ok (.ireturn, 1) := by decide +kernel
theorem dX5_now_95 : decode cX5_now 95 = .ok (.aload_n 0, 1) := by decide +kernel
theorem dX5_now_96 : decode cX5_now 96 = .ok (.getfield 10, 3) := by decide +kernel
theorem dX5_now_99 : decode cX5_now 99 = .ok (.invokevirtual 63, 3) := by decide +kernel
theorem dX5_now_102 : decode cX5_now 102 = .ok (.aload_n 0, 1) := by decide +kernel
theorem dX5_now_103 : decode cX5_now 103 = .ok (.getfield 10, 3) := by decide +kernel
theorem dX5_now_106 : decode cX5_now 106 = .ok (.getfield 69, 3) := by decide +kernel
theorem dX5_now_109 : decode cX5_now 109 = .ok (.ireturn, 1) := by decide +kernel
theorem dX5_now_110 : decode cX5_now 110 = .ok (.aload_n 0, 1) := by decide +kernel
theorem dX5_now_111 : decode cX5_now 111 = .ok (.getfield 10, 3) := by decide +kernel
theorem dX5_now_114 : decode cX5_now 114 = .ok (.invokevirtual 72, 3) := by decide +kernel
theorem dX5_now_117 : decode cX5_now 117 = .ok (.ireturn, 1) := by decide +kernel
theorem dX5_now_118 : decode cX5_now 118 = .ok (.aload_n 0, 1) := by decide +kernel
theorem dX5_now_119 : decode cX5_now 119 = .ok (.getfield 10, 3) := by decide +kernel
theorem dX5_now_122 : decode cX5_now 122 = .ok (.invokevirtual 75, 3) := by decide +kernel
theorem dX5_now_125 : decode cX5_now 125 = .ok (.ireturn, 1) := by decide +kernel
theorem dX5_now_126 : decode cX5_now 126 = .ok (.aload_n 0, 1) := by decide +kernel
theorem dX5_now_127 : decode cX5_now 127 = .ok (.ldc 44, 2) := by decide +kernel
theorem dX5_now_129 : decode cX5_now 129 = .ok (.invokevirtual 45, 3) := by decide +kernel
theorem dX5_now_132 : decode cX5_now 132 = .ok (.ireturn, 1) := by decide +kernel
theorem dX5_hat_0 : decode cX5_hat 0 = .ok (.iload_n 1, 1) := by decide +kernel
theorem dX5_hat_1 : decode cX5_hat 1 = .ok (.iconst 0, 1) := by decide +kernel
theorem dX5_hat_2 : decode cX5_hat 2 = .ok (.iconst 5, 1) := by decide +kernel
theorem dX5_hat_3 : decode cX5_hat 3 = .ok (.invokestatic 40, 3) := by decide +kernel
theorem dX5_hat_6 : decode cX5_hat 6 = .ok (.ifCond .ne 14, 3) := by decide +kernel
theorem dX5_hat_9 : decode cX5_hat 9 = .ok (.iload_n 2, 1) := by decide +kernel
theorem dX5_hat_10 : decode cX5_hat 10 = .ok (.iconst 0, 1) := by decide +kernel
theorem dX5_hat_11 : decode cX5_hat 11 = .ok (.sipush 255, 3) := by decide +kernel
theorem dX5_hat_14 : decode cX5_hat 14 = .ok (.invokestatic 40, 3) := by decide +kernel
theorem dX5_hat_17 : decode cX5_hat 17 = .ok (.ifCond .eq 10, 3) := by decide +kernel
theorem dX5_hat_20 : decode cX5_hat 20 = .ok (.aload_n 0, 1) := by decide +kernel
theorem dX5_hat_21 : decode cX5_hat 21 = .ok (.ldc 44, 2) := by decide +kernel
theorem dX5_hat_23 : decode cX5_hat 23 = .ok (.invokevirtual 45, 3) := by decide +kernel
theorem dX5_hat_26 : decode cX5_hat 26 = .ok (.ireturn, 1) := by decide +kernel
theorem dX5_hat_27 : decode cX5_hat 27 = .ok (.aload_n 0, 1) := by decide +kernel
theorem dX5_hat_28 : decode cX5_hat 28 = .ok (.getfield 10, 3) := by decide +kernel
theorem dX5_hat_31 : decode cX5_hat 31 = .ok (.invokevirtual 78, 3) := by decide +kernel
theorem dX5_hat_34 : decode cX5_hat 34 = .ok (.ifCond .eq 10, 3) := by decide +kernel
theorem dX5_hat_37 : decode cX5_hat 37 = .ok (.aload_n 0, 1) := by decide +kernel
theorem dX5_hat_38 : decode cX5_hat 38 = .ok (.ldc 82, 2) := by decide +kernel
theorem dX5_hat_40 : decode cX5_hat 40 = .ok (.invokevirtual 45, 3) := by decide +kernel
theorem dX5_hat_43 : decode cX5_hat 43 = .ok (.ireturn, 1) := by decide +kernel
theorem dX5_hat_44 : decode cX5_hat 44 = .ok (.aload_n 0, 1) := by decide +kernel
theorem dX5_hat_45 : decode cX5_hat 45 = .ok (.getfield 10, 3) := by decide +kernel
theorem dX5_hat_48 : decode cX5_hat 48 = .ok (.iload_n 1, 1) := by decide +kernel
theorem dX5_hat_49 : decode cX5_hat 49 = .ok (.iload_n 2, 1) := by decide +kernel
theorem dX5_hat_50 : decode cX5_hat 50 = .ok (.invokevirtual 83, 3) := by decide +kernel
theorem dX5_hat_53 : decode cX5_hat 53 = .ok (.aload_n 0, 1) := by decide +kernel
theorem dX5_hat_54 : decode cX5_hat 54 = .ok (.getfield 10, 3) := by decide +kernel
theorem dX5_hat_57 : decode cX5_hat 57 = .ok (.getfield 87, 3) := by decide +kernel
theorem dX5_hat_60 : decode cX5_hat 60 = .ok (.iconst 1, 1) := by decide +kernel
theorem dX5_hat_61 : decode cX5_hat 61 = .ok (.isub, 1) := by decide +kernel
theorem dX5_hat_62 : decode cX5_hat 62 = .ok (.ireturn, 1) := by decide +kernel
theorem dX5_of_0 : decode cX5_of 0 = .ok (.aload_n 0, 1) := by decide +kernel
theorem dX5_of_1 : decode cX5_of 1 = .ok (.getfield 10, 3) := by decide +kernel
theorem dX5_of_4 : decode cX5_of 4 = .ok (.iload_n 1, 1) := by decide +kernel
theorem dX5_of_5 : decode cX5_of 5 = .ok (.invokevirtual 90, 3) := by decide +kernel
theorem dX5_of_8 : decode cX5_of 8 = .ok (.ifCond .eq 13, 3) := by decide +kernel
theorem dX5_of_11 : decode cX5_of 11 = .ok (.iload_n 2, 1) := by decide +kernel
theorem dX5_of_12 : decode cX5_of 12 = .ok (.iconst 0, 1) := by decide +kernel
theorem dX5_of_13 : decode cX5_of 13 = .ok (.bipush 8, 2) := by decide +kernel
theorem dX5_of_15 : decode cX5_of 15 = .ok (.invokestatic 40, 3) := by decide +kernel
theorem dX5_of_18 : decode cX5_of 18 = .ok (.ifCond .eq 10, 3) := by decide +kernel
theorem dX5_of_21 : decode cX5_of 21 = .ok (.aload_n 0, 1) := by decide +kernel
theorem dX5_of_22 : decode cX5_of 22 = .ok (.ldc 44, 2) := by decide +kernel
theorem dX5_of_24 : decode cX5_of 24 = .ok (.invokevirtual 45, 3) := by decide +kernel
theorem dX5_of_27 : decode cX5_of 27 = .ok (.ireturn, 1) := by decide +kernel
theorem dX5_of_28 : decode cX5_of 28 = .ok (.aload_n 0, 1) := by decide +kernel
theorem dX5_of_29 : decode cX5_of 29 = .ok (.getfield 10, 3) := by decide +kernel
theorem dX5_of_32 : decode cX5_of 32 = .ok (.getfield 94, 3) := by decide +kernel
theorem dX5_of_35 : decode cX5_of 35 = .ok (.iload_n 1, 1) := by decide +kernel
theorem dX5_of_36 : decode cX5_of 36 = .ok (.aaload, 1) := by decide +kernel
theorem dX5_of_37 : decode cX5_of 37 = .ok (.astore_n 3, 1) := by decide +kernel
theorem dX5_of_38 : decode cX5_of 38 = .ok (.iload_n 2, 1) := by decide +kernel
theorem dX5_of_39 : decode cX5_of 39 = .ok (.tableswitch 62 6 8 #[25, 37, 57], 25) := by decide +kernel
theorem dX5_of_64 : decode cX5_of 64 = .ok (.aload_n 3, 1) := by decide +kernel
theorem dX5_of_65 : decode cX5_of 65 = .ok (.aload_n 0, 1) := by decide +kernel
theorem dX5_of_66 : decode cX5_of 66 = .ok (.getfield 10, 3) := by decide +kernel
theorem dX5_of_69 : decode cX5_of 69 = .ok (.getfield 56, 3) := by decide +kernel
theorem dX5_of_72 : decode cX5_of 72 = .ok (.invokevirtual 98, 3) := by decide +kernel
theorem dX5_of_75 : decode cX5_of 75 = .ok (.ireturn, 1) := by decide +kernel
theorem dX5_of_76 : decode cX5_of 76 = .ok (.aload_n 3, 1) := by decide +kernel
theorem dX5_of_77 : decode cX5_of 77 = .ok (.aload_n 0, 1) := by decide +kernel
theorem dX5_of_78 : decode cX5_of 78 = .ok (.getfield 10, 3) := by decide +kernel
theorem dX5_of_81 : decode cX5_of 81 = .ok (.getfield 56, 3) := by decide +kernel
theorem dX5_of_84 : decode cX5_of 84 = .ok (.invokevirtual 103, 3) := by decide +kernel
theorem dX5_of_87 : decode cX5_of 87 = .ok (.ifCond .eq 7, 3) := by decide +kernel
theorem dX5_of_90 : decode cX5_of 90 = .ok (.iconst 1, 1) := by decide +kernel
theorem dX5_of_91 : decode cX5_of 91 = .ok (.goto 4, 3) := by decide +kernel
theorem dX5_of_94 : decode cX5_of 94 = .ok (.iconst 0, 1) := by decide +kernel
theorem dX5_of_95 : decode cX5_of 95 = .ok (.ireturn, 1) := by decide +kernel
theorem dX5_of_96 : decode cX5_of 96 = .ok (.aload_n 3, 1) := by decide +kernel
theorem dX5_of_97 : decode cX5_of 97 = .ok (.invokevirtual 106, 3) := by decide +kernel
theorem dX5_of_100 : decode cX5_of 100 = .ok (.ireturn, 1) := by decide +kernel
theorem dX5_of_101 : decode cX5_of 101 = .ok (.aload_n 3, 1) := by decide +kernel
theorem dX5_of_102 : decode cX5_of 102 = .ok (.iload_n 2, 1) := by decide +kernel
theorem dX5_of_103 : decode cX5_of 103 = .ok (.invokevirtual 109, 3) := by decide +kernel
theorem dX5_of_106 : decode cX5_of 106 = .ok (.ireturn, 1) := by decide +kernel
theorem dX5_says_0 : decode cX5_says 0 = .ok (.aload_n 0, 1) := by decide +kernel
theorem dX5_says_1 : decode cX5_says 1 = .ok (.getfield 10, 3) := by decide +kernel
theorem dX5_says_4 : decode cX5_says 4 = .ok (.iload_n 1, 1) := by decide +kernel
theorem dX5_says_5 : decode cX5_says 5 = .ok (.invokevirtual 90, 3) := by decide +kernel
theorem dX5_says_8 : decode cX5_says 8 = .ok (.ifCond .eq 13, 3) := by decide +kernel
theorem dX5_says_11 : decode cX5_says 11 = .ok (.iload_n 2, 1) := by decide +kernel
theorem dX5_says_12 : decode cX5_says 12 = .ok (.iconst 0, 1) := by decide +kernel
theorem dX5_says_13 : decode cX5_says 13 = .ok (.bipush 7, 2) := by decide +kernel
theorem dX5_says_15 : decode cX5_says 15 = .ok (.invokestatic 40, 3) := by decide +kernel
theorem dX5_says_18 : decode cX5_says 18 = .ok (.ifCond .eq 10, 3) := by decide +kernel
theorem dX5_says_21 : decode cX5_says 21 = .ok (.aload_n 0, 1) := by decide +kernel
theorem dX5_says_22 : decode cX5_says 22 = .ok (.ldc 44, 2) := by decide +kernel
theorem dX5_says_24 : decode cX5_says 24 = .ok (.invokevirtual 45, 3) := by decide +kernel
theorem dX5_says_27 : decode cX5_says 27 = .ok (.ireturn, 1) := by decide +kernel
theorem dX5_says_28 : decode cX5_says 28 = .ok (.aload_n 0, 1) := by decide +kernel
theorem dX5_says_29 : decode cX5_says 29 = .ok (.getfield 10, 3) := by decide +kernel
theorem dX5_says_32 : decode cX5_says 32 = .ok (.getfield 94, 3) := by decide +kernel
theorem dX5_says_35 : decode cX5_says 35 = .ok (.iload_n 1, 1) := by decide +kernel
theorem dX5_says_36 : decode cX5_says 36 = .ok (.aaload, 1) := by decide +kernel
theorem dX5_says_37 : decode cX5_says 37 = .ok (.iload_n 2, 1) := by decide +kernel
theorem dX5_says_38 : decode cX5_says 38 = .ok (.aload_n 0, 1) := by decide +kernel
theorem dX5_says_39 : decode cX5_says 39 = .ok (.getfield 10, 3) := by decide +kernel
theorem dX5_says_42 : decode cX5_says 42 = .ok (.getfield 53, 3) := by decide +kernel
theorem dX5_says_45 : decode cX5_says 45 = .ok (.invokevirtual 112, 3) := by decide +kernel
theorem dX5_says_48 : decode cX5_says 48 = .ok (.ireturn, 1) := by decide +kernel
theorem dX5_set_0 : decode cX5_set 0 = .ok (.aload_n 0, 1) := by decide +kernel
theorem dX5_set_1 : decode cX5_set 1 = .ok (.getfield 10, 3) := by decide +kernel
theorem dX5_set_4 : decode cX5_set 4 = .ok (.iload_n 1, 1) := by decide +kernel
theorem dX5_set_5 : decode cX5_set 5 = .ok (.invokevirtual 90, 3) := by decide +kernel
theorem dX5_set_8 : decode cX5_set 8 = .ok (.ifCond .eq 24, 3) := by decide +kernel
theorem dX5_set_11 : decode cX5_set 11 = .ok (.iload_n 2, 1) := by decide +kernel
theorem dX5_set_12 : decode cX5_set 12 = .ok (.iconst 1, 1) := by decide +kernel
theorem dX5_set_13 : decode cX5_set 13 = .ok (.iconst 5, 1) := by decide +kernel
theorem dX5_set_14 : decode cX5_set 14 = .ok (.invokestatic 40, 3) := by decide +kernel
theorem dX5_set_17 : decode cX5_set 17 = .ok (.ifCond .ne 15, 3) := by decide +kernel
theorem dX5_set_20 : decode cX5_set 20 = .ok (.iload_n 3, 1) := by decide +kernel
theorem dX5_set_21 : decode cX5_set 21 = .ok (.iconst 0, 1) := by decide +kernel
theorem dX5_set_22 : decode cX5_set 22 = .ok (.iload_n 2, 1) := by decide +kernel
theorem dX5_set_23 : decode cX5_set 23 = .ok (.invokestatic 116, 3) := by decide +kernel
theorem dX5_set_26 : decode cX5_set 26 = .ok (.invokestatic 40, 3) := by decide +kernel
theorem dX5_set_29 : decode cX5_set 29 = .ok (.ifCond .eq 10, 3) := by decide +kernel
theorem dX5_set_32 : decode cX5_set 32 = .ok (.aload_n 0, 1) := by decide +kernel
theorem dX5_set_33 : decode cX5_set 33 = .ok (.ldc 44, 2) := by decide +kernel
theorem dX5_set_35 : decode cX5_set 35 = .ok (.invokevirtual 45, 3) := by decide +kernel
theorem dX5_set_38 : decode cX5_set 38 = .ok (.ireturn, 1) := by decide +kernel
theorem dX5_set_39 : decode cX5_set 39 = .ok (.aload_n 0, 1) := by decide +kernel
theorem dX5_set_40 : decode cX5_set 40 = .ok (.getfield 10, 3) := by decide +kernel
theorem dX5_set_43 : decode cX5_set 43 = .ok (.getfield 94, 3) := by decide +kernel
theorem dX5_set_46 : decode cX5_set 46 = .ok (.iload_n 1, 1) := by decide +kernel
theorem dX5_set_47 : decode cX5_set 47 = .ok (.aaload, 1) := by decide +kernel
theorem dX5_set_48 : decode cX5_set 48 = .ok (.astore 4, 2) := by decide +kernel
theorem dX5_set_50 : decode cX5_set 50 = .ok (.aload 4, 2) := by decide +kernel
theorem dX5_set_52 : decode cX5_set 52 = .ok (.iload_n 2, 1) := by decide +kernel
theorem dX5_set_53 : decode cX5_set 53 = .ok (.invokevirtual 109, 3) := by decide +kernel
theorem dX5_set_56 : decode cX5_set 56 = .ok (.istore 5, 2) := by decide +kernel
theorem dX5_set_58 : decode cX5_set 58 = .ok (.aload 4, 2) := by decide +kernel
theorem dX5_set_60 : decode cX5_set 60 = .ok (.iload_n 2, 1) := by decide +kernel
theorem dX5_set_61 : decode cX5_set 61 = .ok (.iload_n 3, 1) := by decide +kernel
theorem dX5_set_62 : decode cX5_set 62 = .ok (.invokevirtual 119, 3) := by decide +kernel
theorem dX5_set_65 : decode cX5_set 65 = .ok (.iload 5, 2) := by decide +kernel
theorem dX5_set_67 : decode cX5_set 67 = .ok (.ireturn, 1) := by decide +kernel
theorem dX5_turn_0 : decode cX5_turn 0 = .ok (.aload_n 0, 1) := by decide +kernel
theorem dX5_turn_1 : decode cX5_turn 1 = .ok (.getfield 10, 3) := by decide +kernel
theorem dX5_turn_4 : decode cX5_turn 4 = .ok (.iload_n 1, 1) := by decide +kernel
theorem dX5_turn_5 : decode cX5_turn 5 = .ok (.invokevirtual 90, 3) := by decide +kernel
theorem dX5_turn_8 : decode cX5_turn 8 = .ok (.ifCond .eq 12, 3) := by decide +kernel
theorem dX5_turn_11 : decode cX5_turn 11 = .ok (.iload_n 2, 1) := by decide +kernel
theorem dX5_turn_12 : decode cX5_turn 12 = .ok (.iconst 0, 1) := by decide +kernel
theorem dX5_turn_13 : decode cX5_turn 13 = .ok (.iconst 5, 1) := by decide +kernel
theorem dX5_turn_14 : decode cX5_turn 14 = .ok (.invokestatic 40, 3) := by decide +kernel
theorem dX5_turn_17 : decode cX5_turn 17 = .ok (.ifCond .eq 10, 3) := by decide +kernel
theorem dX5_turn_20 : decode cX5_turn 20 = .ok (.aload_n 0, 1) := by decide +kernel
theorem dX5_turn_21 : decode cX5_turn 21 = .ok (.ldc 44, 2) := by decide +kernel
theorem dX5_turn_23 : decode cX5_turn 23 = .ok (.invokevirtual 45, 3) := by decide +kernel
theorem dX5_turn_26 : decode cX5_turn 26 = .ok (.ireturn, 1) := by decide +kernel
theorem dX5_turn_27 : decode cX5_turn 27 = .ok (.aload_n 0, 1) := by decide +kernel
theorem dX5_turn_28 : decode cX5_turn 28 = .ok (.getfield 10, 3) := by decide +kernel
theorem dX5_turn_31 : decode cX5_turn 31 = .ok (.getfield 94, 3) := by decide +kernel
theorem dX5_turn_34 : decode cX5_turn 34 = .ok (.iload_n 1, 1) := by decide +kernel
theorem dX5_turn_35 : decode cX5_turn 35 = .ok (.aaload, 1) := by decide +kernel
theorem dX5_turn_36 : decode cX5_turn 36 = .ok (.getfield 122, 3) := by decide +kernel
theorem dX5_turn_39 : decode cX5_turn 39 = .ok (.istore_n 3, 1) := by decide +kernel
theorem dX5_turn_40 : decode cX5_turn 40 = .ok (.aload_n 0, 1) := by decide +kernel
theorem dX5_turn_41 : decode cX5_turn 41 = .ok (.getfield 10, 3) := by decide +kernel
theorem dX5_turn_44 : decode cX5_turn 44 = .ok (.getfield 94, 3) := by decide +kernel
theorem dX5_turn_47 : decode cX5_turn 47 = .ok (.iload_n 1, 1) := by decide +kernel
theorem dX5_turn_48 : decode cX5_turn 48 = .ok (.aaload, 1) := by decide +kernel
theorem dX5_turn_49 : decode cX5_turn 49 = .ok (.iload_n 2, 1) := by decide +kernel
theorem dX5_turn_50 : decode cX5_turn 50 = .ok (.putfield 122, 3) := by decide +kernel
theorem dX5_turn_53 : decode cX5_turn 53 = .ok (.iload_n 3, 1) := by decide +kernel
theorem dX5_turn_54 : decode cX5_turn 54 = .ok (.ireturn, 1) := by decide +kernel
theorem dX5_as_0 : decode cX5_as 0 = .ok (.aload_n 0, 1) := by decide +kernel
theorem dX5_as_1 : decode cX5_as 1 = .ok (.getfield 10, 3) := by decide +kernel
theorem dX5_as_4 : decode cX5_as 4 = .ok (.iload_n 1, 1) := by decide +kernel
theorem dX5_as_5 : decode cX5_as 5 = .ok (.invokevirtual 90, 3) := by decide +kernel
theorem dX5_as_8 : decode cX5_as 8 = .ok (.ifCond .eq 12, 3) := by decide +kernel
theorem dX5_as_11 : decode cX5_as 11 = .ok (.iload_n 2, 1) := by decide +kernel
theorem dX5_as_12 : decode cX5_as 12 = .ok (.iconst 0, 1) := by decide +kernel
theorem dX5_as_13 : decode cX5_as 13 = .ok (.iconst 5, 1) := by decide +kernel
theorem dX5_as_14 : decode cX5_as 14 = .ok (.invokestatic 40, 3) := by decide +kernel
theorem dX5_as_17 : decode cX5_as 17 = .ok (.ifCond .eq 10, 3) := by decide +kernel
theorem dX5_as_20 : decode cX5_as 20 = .ok (.aload_n 0, 1) := by decide +kernel
theorem dX5_as_21 : decode cX5_as 21 = .ok (.ldc 44, 2) := by decide +kernel
theorem dX5_as_23 : decode cX5_as 23 = .ok (.invokevirtual 45, 3) := by decide +kernel
theorem dX5_as_26 : decode cX5_as 26 = .ok (.ireturn, 1) := by decide +kernel
theorem dX5_as_27 : decode cX5_as 27 = .ok (.aload_n 0, 1) := by decide +kernel
theorem dX5_as_28 : decode cX5_as 28 = .ok (.getfield 10, 3) := by decide +kernel
theorem dX5_as_31 : decode cX5_as 31 = .ok (.getfield 94, 3) := by decide +kernel
theorem dX5_as_34 : decode cX5_as 34 = .ok (.iload_n 1, 1) := by decide +kernel
theorem dX5_as_35 : decode cX5_as 35 = .ok (.aaload, 1) := by decide +kernel
theorem dX5_as_36 : decode cX5_as 36 = .ok (.astore_n 3, 1) := by decide +kernel
theorem dX5_as_37 : decode cX5_as 37 = .ok (.aload_n 3, 1) := by decide +kernel
theorem dX5_as_38 : decode cX5_as 38 = .ok (.iload_n 2, 1) := by decide +kernel
theorem dX5_as_39 : decode cX5_as 39 = .ok (.invokevirtual 125, 3) := by decide +kernel
theorem dX5_as_42 : decode cX5_as 42 = .ok (.ifCond .eq 10, 3) := by decide +kernel
theorem dX5_as_45 : decode cX5_as 45 = .ok (.aload_n 3, 1) := by decide +kernel
theorem dX5_as_46 : decode cX5_as 46 = .ok (.getfield 128, 3) := by decide +kernel
theorem dX5_as_49 : decode cX5_as 49 = .ok (.goto 9, 3) := by decide +kernel
theorem dX5_as_52 : decode cX5_as 52 = .ok (.aload_n 0, 1) := by decide +kernel
theorem dX5_as_53 : decode cX5_as 53 = .ok (.ldc 131, 2) := by decide +kernel
theorem dX5_as_55 : decode cX5_as 55 = .ok (.invokevirtual 45, 3) := by decide +kernel
theorem dX5_as_58 : decode cX5_as 58 = .ok (.ireturn, 1) := by decide +kernel
theorem dX5_sessions_0 : decode cX5_sessions 0 = .ok (.iload_n 1, 1) := by decide +kernel
theorem dX5_sessions_1 : decode cX5_sessions 1 = .ok (.iconst 1, 1) := by decide +kernel
theorem dX5_sessions_2 : decode cX5_sessions 2 = .ok (.bipush 100, 2) := by decide +kernel
theorem dX5_sessions_4 : decode cX5_sessions 4 = .ok (.invokestatic 40, 3) := by decide +kernel
theorem dX5_sessions_7 : decode cX5_sessions 7 = .ok (.ifCond .eq 10, 3) := by decide +kernel
theorem dX5_sessions_10 : decode cX5_sessions 10 = .ok (.aload_n 0, 1) := by decide +kernel
theorem dX5_sessions_11 : decode cX5_sessions 11 = .ok (.ldc 44, 2) := by decide +kernel
theorem dX5_sessions_13 : decode cX5_sessions 13 = .ok (.invokevirtual 45, 3) := by decide +kernel
theorem dX5_sessions_16 : decode cX5_sessions 16 = .ok (.ireturn, 1) := by decide +kernel
theorem dX5_sessions_17 : decode cX5_sessions 17 = .ok (.aload_n 0, 1) := by decide +kernel
theorem dX5_sessions_18 : decode cX5_sessions 18 = .ok (.getfield 10, 3) := by decide +kernel
theorem dX5_sessions_21 : decode cX5_sessions 21 = .ok (.getfield 56, 3) := by decide +kernel
theorem dX5_sessions_24 : decode cX5_sessions 24 = .ok (.ldc 132, 2) := by decide +kernel
theorem dX5_sessions_26 : decode cX5_sessions 26 = .ok (.iload_n 1, 1) := by decide +kernel
theorem dX5_sessions_27 : decode cX5_sessions 27 = .ok (.isub, 1) := by decide +kernel
theorem dX5_sessions_28 : decode cX5_sessions 28 = .ok (.if_icmp .le 10, 3) := by decide +kernel
theorem dX5_sessions_31 : decode cX5_sessions 31 = .ok (.aload_n 0, 1) := by decide +kernel
theorem dX5_sessions_32 : decode cX5_sessions 32 = .ok (.ldc 133, 2) := by decide +kernel
theorem dX5_sessions_34 : decode cX5_sessions 34 = .ok (.invokevirtual 45, 3) := by decide +kernel
theorem dX5_sessions_37 : decode cX5_sessions 37 = .ok (.ireturn, 1) := by decide +kernel
theorem dX5_sessions_38 : decode cX5_sessions 38 = .ok (.aload_n 0, 1) := by decide +kernel
theorem dX5_sessions_39 : decode cX5_sessions 39 = .ok (.getfield 10, 3) := by decide +kernel
theorem dX5_sessions_42 : decode cX5_sessions 42 = .ok (.iload_n 1, 1) := by decide +kernel
theorem dX5_sessions_43 : decode cX5_sessions 43 = .ok (.invokevirtual 134, 3) := by decide +kernel
theorem dX5_sessions_46 : decode cX5_sessions 46 = .ok (.aload_n 0, 1) := by decide +kernel
theorem dX5_sessions_47 : decode cX5_sessions 47 = .ok (.getfield 10, 3) := by decide +kernel
theorem dX5_sessions_50 : decode cX5_sessions 50 = .ok (.getfield 53, 3) := by decide +kernel
theorem dX5_sessions_53 : decode cX5_sessions 53 = .ok (.ireturn, 1) := by decide +kernel
theorem dX5_on_0 : decode cX5_on 0 = .ok (.aload_n 0, 1) := by decide +kernel
theorem dX5_on_1 : decode cX5_on 1 = .ok (.getfield 10, 3) := by decide +kernel
theorem dX5_on_4 : decode cX5_on 4 = .ok (.iload_n 1, 1) := by decide +kernel
theorem dX5_on_5 : decode cX5_on 5 = .ok (.invokevirtual 90, 3) := by decide +kernel
theorem dX5_on_8 : decode cX5_on 8 = .ok (.ifCond .eq 23, 3) := by decide +kernel
theorem dX5_on_11 : decode cX5_on 11 = .ok (.iload_n 2, 1) := by decide +kernel
theorem dX5_on_12 : decode cX5_on 12 = .ok (.iconst 0, 1) := by decide +kernel
theorem dX5_on_13 : decode cX5_on 13 = .ok (.sipush 200, 3) := by decide +kernel
theorem dX5_on_16 : decode cX5_on 16 = .ok (.invokestatic 40, 3) := by decide +kernel
theorem dX5_on_19 : decode cX5_on 19 = .ok (.ifCond .ne 12, 3) := by decide +kernel
theorem dX5_on_22 : decode cX5_on 22 = .ok (.iload_n 3, 1) := by decide +kernel
theorem dX5_on_23 : decode cX5_on 23 = .ok (.iconst 0, 1) := by decide +kernel
theorem dX5_on_24 : decode cX5_on 24 = .ok (.iconst 3, 1) := by decide +kernel
theorem dX5_on_25 : decode cX5_on 25 = .ok (.invokestatic 40, 3) := by decide +kernel
theorem dX5_on_28 : decode cX5_on 28 = .ok (.ifCond .eq 10, 3) := by decide +kernel
theorem dX5_on_31 : decode cX5_on 31 = .ok (.aload_n 0, 1) := by decide +kernel
theorem dX5_on_32 : decode cX5_on 32 = .ok (.ldc 44, 2) := by decide +kernel
theorem dX5_on_34 : decode cX5_on 34 = .ok (.invokevirtual 45, 3) := by decide +kernel
theorem dX5_on_37 : decode cX5_on 37 = .ok (.ireturn, 1) := by decide +kernel
theorem dX5_on_38 : decode cX5_on 38 = .ok (.aload_n 0, 1) := by decide +kernel
theorem dX5_on_39 : decode cX5_on 39 = .ok (.iload_n 2, 1) := by decide +kernel
theorem dX5_on_40 : decode cX5_on 40 = .ok (.invokevirtual 138, 3) := by decide +kernel
theorem dX5_on_43 : decode cX5_on 43 = .ok (.aload_n 0, 1) := by decide +kernel
theorem dX5_on_44 : decode cX5_on 44 = .ok (.getfield 16, 3) := by decide +kernel
theorem dX5_on_47 : decode cX5_on 47 = .ok (.getfield 94, 3) := by decide +kernel
theorem dX5_on_50 : decode cX5_on 50 = .ok (.iload_n 1, 1) := by decide +kernel
theorem dX5_on_51 : decode cX5_on 51 = .ok (.aaload, 1) := by decide +kernel
theorem dX5_on_52 : decode cX5_on 52 = .ok (.iconst 1, 1) := by decide +kernel
theorem dX5_on_53 : decode cX5_on 53 = .ok (.iload_n 3, 1) := by decide +kernel
theorem dX5_on_54 : decode cX5_on 54 = .ok (.iadd, 1) := by decide +kernel
theorem dX5_on_55 : decode cX5_on 55 = .ok (.invokevirtual 109, 3) := by decide +kernel
theorem dX5_on_58 : decode cX5_on 58 = .ok (.ireturn, 1) := by decide +kernel
theorem dX5_then_0 : decode cX5_then 0 = .ok (.iload_n 1, 1) := by decide +kernel
theorem dX5_then_1 : decode cX5_then 1 = .ok (.iconst 0, 1) := by decide +kernel
theorem dX5_then_2 : decode cX5_then 2 = .ok (.sipush 200, 3) := by decide +kernel
theorem dX5_then_5 : decode cX5_then 5 = .ok (.invokestatic 40, 3) := by decide +kernel
theorem dX5_then_8 : decode cX5_then 8 = .ok (.ifCond .ne 12, 3) := by decide +kernel
theorem dX5_then_11 : decode cX5_then 11 = .ok (.iload_n 2, 1) := by decide +kernel
theorem dX5_then_12 : decode cX5_then 12 = .ok (.iconst 0, 1) := by decide +kernel
theorem dX5_then_13 : decode cX5_then 13 = .ok (.iconst 1, 1) := by decide +kernel
theorem dX5_then_14 : decode cX5_then 14 = .ok (.invokestatic 40, 3) := by decide +kernel
theorem dX5_then_17 : decode cX5_then 17 = .ok (.ifCond .eq 10, 3) := by decide +kernel
theorem dX5_then_20 : decode cX5_then 20 = .ok (.aload_n 0, 1) := by decide +kernel
theorem dX5_then_21 : decode cX5_then 21 = .ok (.ldc 44, 2) := by decide +kernel
theorem dX5_then_23 : decode cX5_then 23 = .ok (.invokevirtual 45, 3) := by decide +kernel
theorem dX5_then_26 : decode cX5_then 26 = .ok (.ireturn, 1) := by decide +kernel
theorem dX5_then_27 : decode cX5_then 27 = .ok (.aload_n 0, 1) := by decide +kernel
theorem dX5_then_28 : decode cX5_then 28 = .ok (.iload_n 1, 1) := by decide +kernel
theorem dX5_then_29 : decode cX5_then 29 = .ok (.invokevirtual 138, 3) := by decide +kernel
theorem dX5_then_32 : decode cX5_then 32 = .ok (.iload_n 2, 1) := by decide +kernel
theorem dX5_then_33 : decode cX5_then 33 = .ok (.ifCond .ne 13, 3) := by decide +kernel
theorem dX5_then_36 : decode cX5_then 36 = .ok (.aload_n 0, 1) := by decide +kernel
theorem dX5_then_37 : decode cX5_then 37 = .ok (.getfield 16, 3) := by decide +kernel
theorem dX5_then_40 : decode cX5_then 40 = .ok (.getfield 53, 3) := by decide +kernel
theorem dX5_then_43 : decode cX5_then 43 = .ok (.goto 10, 3) := by decide +kernel
theorem dX5_then_46 : decode cX5_then 46 = .ok (.aload_n 0, 1) := by decide +kernel
theorem dX5_then_47 : decode cX5_then 47 = .ok (.getfield 16, 3) := by decide +kernel
theorem dX5_then_50 : decode cX5_then 50 = .ok (.invokevirtual 75, 3) := by decide +kernel
theorem dX5_then_53 : decode cX5_then 53 = .ok (.ireturn, 1) := by decide +kernel
theorem dX5_comes_0 : decode cX5_comes 0 = .ok (.iload_n 1, 1) := by decide +kernel
theorem dX5_comes_1 : decode cX5_comes 1 = .ok (.iconst 0, 1) := by decide +kernel
theorem dX5_comes_2 : decode cX5_comes 2 = .ok (.bipush 7, 2) := by decide +kernel
theorem dX5_comes_4 : decode cX5_comes 4 = .ok (.invokestatic 40, 3) := by decide +kernel
theorem dX5_comes_7 : decode cX5_comes 7 = .ok (.ifCond .ne 12, 3) := by decide +kernel
theorem dX5_comes_10 : decode cX5_comes 10 = .ok (.iload_n 2, 1) := by decide +kernel
theorem dX5_comes_11 : decode cX5_comes 11 = .ok (.iconst 0, 1) := by decide +kernel
theorem dX5_comes_12 : decode cX5_comes 12 = .ok (.iconst 1, 1) := by decide +kernel
theorem dX5_comes_13 : decode cX5_comes 13 = .ok (.invokestatic 40, 3) := by decide +kernel
theorem dX5_comes_16 : decode cX5_comes 16 = .ok (.ifCond .eq 10, 3) := by decide +kernel
theorem dX5_comes_19 : decode cX5_comes 19 = .ok (.aload_n 0, 1) := by decide +kernel
theorem dX5_comes_20 : decode cX5_comes 20 = .ok (.ldc 44, 2) := by decide +kernel
theorem dX5_comes_22 : decode cX5_comes 22 = .ok (.invokevirtual 45, 3) := by decide +kernel
theorem dX5_comes_25 : decode cX5_comes 25 = .ok (.ireturn, 1) := by decide +kernel
theorem dX5_comes_26 : decode cX5_comes 26 = .ok (.aload_n 0, 1) := by decide +kernel
theorem dX5_comes_27 : decode cX5_comes 27 = .ok (.getfield 16, 3) := by decide +kernel
theorem dX5_comes_30 : decode cX5_comes 30 = .ok (.aload_n 0, 1) := by decide +kernel
theorem dX5_comes_31 : decode cX5_comes 31 = .ok (.getfield 10, 3) := by decide +kernel
theorem dX5_comes_34 : decode cX5_comes 34 = .ok (.invokevirtual 141, 3) := by decide +kernel
theorem dX5_comes_37 : decode cX5_comes 37 = .ok (.iconst 0, 1) := by decide +kernel
theorem dX5_comes_38 : decode cX5_comes 38 = .ok (.istore_n 3, 1) := by decide +kernel
theorem dX5_comes_39 : decode cX5_comes 39 = .ok (.iload_n 3, 1) := by decide +kernel
theorem dX5_comes_40 : decode cX5_comes 40 = .ok (.sipush 200, 3) := by decide +kernel
theorem dX5_comes_43 : decode cX5_comes 43 = .ok (.if_icmp .gt 34, 3) := by decide +kernel
theorem dX5_comes_46 : decode cX5_comes 46 = .ok (.aload_n 0, 1) := by decide +kernel
theorem dX5_comes_47 : decode cX5_comes 47 = .ok (.getfield 16, 3) := by decide +kernel
theorem dX5_comes_50 : decode cX5_comes 50 = .ok (.getfield 53, 3) := by decide +kernel
theorem dX5_comes_53 : decode cX5_comes 53 = .ok (.iload_n 1, 1) := by decide +kernel
theorem dX5_comes_54 : decode cX5_comes 54 = .ok (.invokestatic 145, 3) := by decide +kernel
theorem dX5_comes_57 : decode cX5_comes 57 = .ok (.iload_n 2, 1) := by decide +kernel
theorem dX5_comes_58 : decode cX5_comes 58 = .ok (.if_icmp .ne 5, 3) := by decide +kernel
theorem dX5_comes_61 : decode cX5_comes 61 = .ok (.iload_n 3, 1) := by decide +kernel
theorem dX5_comes_62 : decode cX5_comes 62 = .ok (.ireturn, 1) := by decide +kernel
theorem dX5_comes_63 : decode cX5_comes 63 = .ok (.aload_n 0, 1) := by decide +kernel
theorem dX5_comes_64 : decode cX5_comes 64 = .ok (.getfield 16, 3) := by decide +kernel
theorem dX5_comes_67 : decode cX5_comes 67 = .ok (.iconst 1, 1) := by decide +kernel
theorem dX5_comes_68 : decode cX5_comes 68 = .ok (.invokevirtual 134, 3) := by decide +kernel
theorem dX5_comes_71 : decode cX5_comes 71 = .ok (.iinc 3 1, 3) := by decide +kernel
theorem dX5_comes_74 : decode cX5_comes 74 = .ok (.goto (-35), 3) := by decide +kernel
theorem dX5_comes_77 : decode cX5_comes 77 = .ok (.aload_n 0, 1) := by decide +kernel
theorem dX5_comes_78 : decode cX5_comes 78 = .ok (.ldc 148, 2) := by decide +kernel
theorem dX5_comes_80 : decode cX5_comes 80 = .ok (.invokevirtual 45, 3) := by decide +kernel
theorem dX5_comes_83 : decode cX5_comes 83 = .ok (.ireturn, 1) := by decide +kernel
theorem dX5_wise_0 : decode cX5_wise 0 = .ok (.aload_n 0, 1) := by decide +kernel
theorem dX5_wise_1 : decode cX5_wise 1 = .ok (.getfield 16, 3) := by decide +kernel
theorem dX5_wise_4 : decode cX5_wise 4 = .ok (.aload_n 0, 1) := by decide +kernel
theorem dX5_wise_5 : decode cX5_wise 5 = .ok (.getfield 10, 3) := by decide +kernel
theorem dX5_wise_8 : decode cX5_wise 8 = .ok (.invokevirtual 141, 3) := by decide +kernel
theorem dX5_wise_11 : decode cX5_wise 11 = .ok (.iconst 0, 1) := by decide +kernel
theorem dX5_wise_12 : decode cX5_wise 12 = .ok (.istore_n 1, 1) := by decide +kernel
theorem dX5_wise_13 : decode cX5_wise 13 = .ok (.iload_n 1, 1) := by decide +kernel
theorem dX5_wise_14 : decode cX5_wise 14 = .ok (.sipush 200, 3) := by decide +kernel
theorem dX5_wise_17 : decode cX5_wise 17 = .ok (.if_icmp .gt 32, 3) := by decide +kernel
theorem dX5_wise_20 : decode cX5_wise 20 = .ok (.aload_n 0, 1) := by decide +kernel
theorem dX5_wise_21 : decode cX5_wise 21 = .ok (.getfield 16, 3) := by decide +kernel
theorem dX5_wise_24 : decode cX5_wise 24 = .ok (.invokevirtual 75, 3) := by decide +kernel
theorem dX5_wise_27 : decode cX5_wise 27 = .ok (.sipush 255, 3) := by decide +kernel
theorem dX5_wise_30 : decode cX5_wise 30 = .ok (.if_icmp .ne 5, 3) := by decide +kernel
theorem dX5_wise_33 : decode cX5_wise 33 = .ok (.iload_n 1, 1) := by decide +kernel
theorem dX5_wise_34 : decode cX5_wise 34 = .ok (.ireturn, 1) := by decide +kernel
theorem dX5_wise_35 : decode cX5_wise 35 = .ok (.aload_n 0, 1) := by decide +kernel
theorem dX5_wise_36 : decode cX5_wise 36 = .ok (.getfield 16, 3) := by decide +kernel
theorem dX5_wise_39 : decode cX5_wise 39 = .ok (.iconst 1, 1) := by decide +kernel
theorem dX5_wise_40 : decode cX5_wise 40 = .ok (.invokevirtual 134, 3) := by decide +kernel
theorem dX5_wise_43 : decode cX5_wise 43 = .ok (.iinc 1 1, 3) := by decide +kernel
theorem dX5_wise_46 : decode cX5_wise 46 = .ok (.goto (-33), 3) := by decide +kernel
theorem dX5_wise_49 : decode cX5_wise 49 = .ok (.aload_n 0, 1) := by decide +kernel
theorem dX5_wise_50 : decode cX5_wise 50 = .ok (.ldc 148, 2) := by decide +kernel
theorem dX5_wise_52 : decode cX5_wise 52 = .ok (.invokevirtual 45, 3) := by decide +kernel
theorem dX5_wise_55 : decode cX5_wise 55 = .ok (.ireturn, 1) := by decide +kernel
theorem dX5_errs_0 : decode cX5_errs 0 = .ok (.aload_n 0, 1) := by decide +kernel
theorem dX5_errs_1 : decode cX5_errs 1 = .ok (.getfield 10, 3) := by decide +kernel
theorem dX5_errs_4 : decode cX5_errs 4 = .ok (.iload_n 1, 1) := by decide +kernel
theorem dX5_errs_5 : decode cX5_errs 5 = .ok (.invokevirtual 90, 3) := by decide +kernel
theorem dX5_errs_8 : decode cX5_errs 8 = .ok (.ifCond .ne 10, 3) := by decide +kernel
theorem dX5_errs_11 : decode cX5_errs 11 = .ok (.aload_n 0, 1) := by decide +kernel
theorem dX5_errs_12 : decode cX5_errs 12 = .ok (.ldc 44, 2) := by decide +kernel
theorem dX5_errs_14 : decode cX5_errs 14 = .ok (.invokevirtual 45, 3) := by decide +kernel
theorem dX5_errs_17 : decode cX5_errs 17 = .ok (.ireturn, 1) := by decide +kernel
theorem dX5_errs_18 : decode cX5_errs 18 = .ok (.aload_n 0, 1) := by decide +kernel
theorem dX5_errs_19 : decode cX5_errs 19 = .ok (.getfield 10, 3) := by decide +kernel
theorem dX5_errs_22 : decode cX5_errs 22 = .ok (.getfield 94, 3) := by decide +kernel
theorem dX5_errs_25 : decode cX5_errs 25 = .ok (.iload_n 1, 1) := by decide +kernel
theorem dX5_errs_26 : decode cX5_errs 26 = .ok (.aaload, 1) := by decide +kernel
theorem dX5_errs_27 : decode cX5_errs 27 = .ok (.getfield 149, 3) := by decide +kernel
theorem dX5_errs_30 : decode cX5_errs 30 = .ok (.istore_n 2, 1) := by decide +kernel
theorem dX5_errs_31 : decode cX5_errs 31 = .ok (.aload_n 0, 1) := by decide +kernel
theorem dX5_errs_32 : decode cX5_errs 32 = .ok (.getfield 16, 3) := by decide +kernel
theorem dX5_errs_35 : decode cX5_errs 35 = .ok (.aload_n 0, 1) := by decide +kernel
theorem dX5_errs_36 : decode cX5_errs 36 = .ok (.getfield 10, 3) := by decide +kernel
theorem dX5_errs_39 : decode cX5_errs 39 = .ok (.invokevirtual 141, 3) := by decide +kernel
theorem dX5_errs_42 : decode cX5_errs 42 = .ok (.iconst 1, 1) := by decide +kernel
theorem dX5_errs_43 : decode cX5_errs 43 = .ok (.istore_n 3, 1) := by decide +kernel
theorem dX5_errs_44 : decode cX5_errs 44 = .ok (.iload_n 3, 1) := by decide +kernel
theorem dX5_errs_45 : decode cX5_errs 45 = .ok (.sipush 200, 3) := by decide +kernel
theorem dX5_errs_48 : decode cX5_errs 48 = .ok (.if_icmp .gt 35, 3) := by decide +kernel
theorem dX5_errs_51 : decode cX5_errs 51 = .ok (.aload_n 0, 1) := by decide +kernel
theorem dX5_errs_52 : decode cX5_errs 52 = .ok (.getfield 16, 3) := by decide +kernel
theorem dX5_errs_55 : decode cX5_errs 55 = .ok (.iconst 1, 1) := by decide +kernel
theorem dX5_errs_56 : decode cX5_errs 56 = .ok (.invokevirtual 134, 3) := by decide +kernel
theorem dX5_errs_59 : decode cX5_errs 59 = .ok (.aload_n 0, 1) := by decide +kernel
theorem dX5_errs_60 : decode cX5_errs 60 = .ok (.getfield 16, 3) := by decide +kernel
theorem dX5_errs_63 : decode cX5_errs 63 = .ok (.getfield 94, 3) := by decide +kernel
theorem dX5_errs_66 : decode cX5_errs 66 = .ok (.iload_n 1, 1) := by decide +kernel
theorem dX5_errs_67 : decode cX5_errs 67 = .ok (.aaload, 1) := by decide +kernel
theorem dX5_errs_68 : decode cX5_errs 68 = .ok (.getfield 149, 3) := by decide +kernel
theorem dX5_errs_71 : decode cX5_errs 71 = .ok (.iload_n 2, 1) := by decide +kernel
theorem dX5_errs_72 : decode cX5_errs 72 = .ok (.if_icmp .le 5, 3) := by decide +kernel
theorem dX5_errs_75 : decode cX5_errs 75 = .ok (.iload_n 3, 1) := by decide +kernel
theorem dX5_errs_76 : decode cX5_errs 76 = .ok (.ireturn, 1) := by decide +kernel
theorem dX5_errs_77 : decode cX5_errs 77 = .ok (.iinc 3 1, 3) := by decide +kernel
theorem dX5_errs_80 : decode cX5_errs 80 = .ok (.goto (-36), 3) := by decide +kernel
theorem dX5_errs_83 : decode cX5_errs 83 = .ok (.aload_n 0, 1) := by decide +kernel
theorem dX5_errs_84 : decode cX5_errs 84 = .ok (.ldc 148, 2) := by decide +kernel
theorem dX5_errs_86 : decode cX5_errs 86 = .ok (.invokevirtual 45, 3) := by decide +kernel
theorem dX5_errs_89 : decode cX5_errs 89 = .ok (.ireturn, 1) := by decide +kernel
theorem dX5_lift_0 : decode cX5_lift 0 = .ok (.iload_n 1, 1) := by decide +kernel
theorem dX5_lift_1 : decode cX5_lift 1 = .ok (.iconst 1, 1) := by decide +kernel
theorem dX5_lift_2 : decode cX5_lift 2 = .ok (.bipush 60, 2) := by decide +kernel
theorem dX5_lift_4 : decode cX5_lift 4 = .ok (.invokestatic 40, 3) := by decide +kernel
theorem dX5_lift_7 : decode cX5_lift 7 = .ok (.ifCond .eq 10, 3) := by decide +kernel
theorem dX5_lift_10 : decode cX5_lift 10 = .ok (.aload_n 0, 1) := by decide +kernel
theorem dX5_lift_11 : decode cX5_lift 11 = .ok (.ldc 44, 2) := by decide +kernel
theorem dX5_lift_13 : decode cX5_lift 13 = .ok (.invokevirtual 45, 3) := by decide +kernel
theorem dX5_lift_16 : decode cX5_lift 16 = .ok (.ireturn, 1) := by decide +kernel
theorem dX5_lift_17 : decode cX5_lift 17 = .ok (.iconst (-1), 1) := by decide +kernel
theorem dX5_lift_18 : decode cX5_lift 18 = .ok (.istore_n 2, 1) := by decide +kernel
theorem dX5_lift_19 : decode cX5_lift 19 = .ok (.iconst (-1), 1) := by decide +kernel
theorem dX5_lift_20 : decode cX5_lift 20 = .ok (.istore_n 3, 1) := by decide +kernel
theorem dX5_lift_21 : decode cX5_lift 21 = .ok (.iconst 0, 1) := by decide +kernel
theorem dX5_lift_22 : decode cX5_lift 22 = .ok (.istore 4, 2) := by decide +kernel
theorem dX5_lift_24 : decode cX5_lift 24 = .ok (.iload 4, 2) := by decide +kernel
theorem dX5_lift_26 : decode cX5_lift 26 = .ok (.aload_n 0, 1) := by decide +kernel
theorem dX5_lift_27 : decode cX5_lift 27 = .ok (.getfield 10, 3) := by decide +kernel
theorem dX5_lift_30 : decode cX5_lift 30 = .ok (.getfield 87, 3) := by decide +kernel
theorem dX5_lift_33 : decode cX5_lift 33 = .ok (.if_icmp .ge 85, 3) := by decide +kernel
theorem dX5_lift_36 : decode cX5_lift 36 = .ok (.aload_n 0, 1) := by decide +kernel
theorem dX5_lift_37 : decode cX5_lift 37 = .ok (.getfield 10, 3) := by decide +kernel
theorem dX5_lift_40 : decode cX5_lift 40 = .ok (.getfield 94, 3) := by decide +kernel
theorem dX5_lift_43 : decode cX5_lift 43 = .ok (.iload 4, 2) := by decide +kernel
theorem dX5_lift_45 : decode cX5_lift 45 = .ok (.aaload, 1) := by decide +kernel
theorem dX5_lift_46 : decode cX5_lift 46 = .ok (.getfield 152, 3) := by decide +kernel
theorem dX5_lift_49 : decode cX5_lift 49 = .ok (.ifCond .ne 6, 3) := by decide +kernel
theorem dX5_lift_52 : decode cX5_lift 52 = .ok (.goto 60, 3) := by decide +kernel
theorem dX5_lift_55 : decode cX5_lift 55 = .ok (.aload_n 0, 1) := by decide +kernel
theorem dX5_lift_56 : decode cX5_lift 56 = .ok (.getfield 16, 3) := by decide +kernel
theorem dX5_lift_59 : decode cX5_lift 59 = .ok (.aload_n 0, 1) := by decide +kernel
theorem dX5_lift_60 : decode cX5_lift 60 = .ok (.getfield 10, 3) := by decide +kernel
theorem dX5_lift_63 : decode cX5_lift 63 = .ok (.invokevirtual 141, 3) := by decide +kernel
theorem dX5_lift_66 : decode cX5_lift 66 = .ok (.aload_n 0, 1) := by decide +kernel
theorem dX5_lift_67 : decode cX5_lift 67 = .ok (.getfield 16, 3) := by decide +kernel
theorem dX5_lift_70 : decode cX5_lift 70 = .ok (.getfield 94, 3) := by decide +kernel
theorem dX5_lift_73 : decode cX5_lift 73 = .ok (.iload 4, 2) := by decide +kernel
theorem dX5_lift_75 : decode cX5_lift 75 = .ok (.aaload, 1) := by decide +kernel
theorem dX5_lift_76 : decode cX5_lift 76 = .ok (.iconst 0, 1) := by decide +kernel
theorem dX5_lift_77 : decode cX5_lift 77 = .ok (.putfield 152, 3) := by decide +kernel
theorem dX5_lift_80 : decode cX5_lift 80 = .ok (.aload_n 0, 1) := by decide +kernel
theorem dX5_lift_81 : decode cX5_lift 81 = .ok (.getfield 16, 3) := by decide +kernel
theorem dX5_lift_84 : decode cX5_lift 84 = .ok (.iload_n 1, 1) := by decide +kernel
theorem dX5_lift_85 : decode cX5_lift 85 = .ok (.invokevirtual 134, 3) := by decide +kernel
theorem dX5_lift_88 : decode cX5_lift 88 = .ok (.aload_n 0, 1) := by decide +kernel
theorem dX5_lift_89 : decode cX5_lift 89 = .ok (.getfield 16, 3) := by decide +kernel
theorem dX5_lift_92 : decode cX5_lift 92 = .ok (.invokevirtual 75, 3) := by decide +kernel
theorem dX5_lift_95 : decode cX5_lift 95 = .ok (.invokestatic 155, 3) := by decide +kernel
theorem dX5_lift_98 : decode cX5_lift 98 = .ok (.istore 5, 2) := by decide +kernel
theorem dX5_lift_100 : decode cX5_lift 100 = .ok (.iload 5, 2) := by decide +kernel
theorem dX5_lift_102 : decode cX5_lift 102 = .ok (.iload_n 3, 1) := by decide +kernel
theorem dX5_lift_103 : decode cX5_lift 103 = .ok (.if_icmp .le 9, 3) := by decide +kernel
theorem dX5_lift_106 : decode cX5_lift 106 = .ok (.iload 5, 2) := by decide +kernel
theorem dX5_lift_108 : decode cX5_lift 108 = .ok (.istore_n 3, 1) := by decide +kernel
theorem dX5_lift_109 : decode cX5_lift 109 = .ok (.iload 4, 2) := by decide +kernel
theorem dX5_lift_111 : decode cX5_lift 111 = .ok (.istore_n 2, 1) := by decide +kernel
theorem dX5_lift_112 : decode cX5_lift 112 = .ok (.iinc 4 1, 3) := by decide +kernel
theorem dX5_lift_115 : decode cX5_lift 115 = .ok (.goto (-91), 3) := by decide +kernel
theorem dX5_lift_118 : decode cX5_lift 118 = .ok (.iload_n 2, 1) := by decide +kernel
theorem dX5_lift_119 : decode cX5_lift 119 = .ok (.ifCond .ge 12, 3) := by decide +kernel
theorem dX5_lift_122 : decode cX5_lift 122 = .ok (.aload_n 0, 1) := by decide +kernel
theorem dX5_lift_123 : decode cX5_lift 123 = .ok (.ldc 148, 2) := by decide +kernel
theorem dX5_lift_125 : decode cX5_lift 125 = .ok (.invokevirtual 45, 3) := by decide +kernel
theorem dX5_lift_128 : decode cX5_lift 128 = .ok (.goto 4, 3) := by decide +kernel
theorem dX5_lift_131 : decode cX5_lift 131 = .ok (.iload_n 2, 1) := by decide +kernel
theorem dX5_lift_132 : decode cX5_lift 132 = .ok (.ireturn, 1) := by decide +kernel
theorem dX5_kind_0 : decode cX5_kind 0 = .ok (.aload_n 0, 1) := by decide +kernel
theorem dX5_kind_1 : decode cX5_kind 1 = .ok (.getfield 10, 3) := by decide +kernel
theorem dX5_kind_4 : decode cX5_kind 4 = .ok (.iload_n 1, 1) := by decide +kernel
theorem dX5_kind_5 : decode cX5_kind 5 = .ok (.invokevirtual 90, 3) := by decide +kernel
theorem dX5_kind_8 : decode cX5_kind 8 = .ok (.ifCond .eq 13, 3) := by decide +kernel
theorem dX5_kind_11 : decode cX5_kind 11 = .ok (.iload_n 2, 1) := by decide +kernel
theorem dX5_kind_12 : decode cX5_kind 12 = .ok (.iconst 1, 1) := by decide +kernel
theorem dX5_kind_13 : decode cX5_kind 13 = .ok (.bipush 60, 2) := by decide +kernel
theorem dX5_kind_15 : decode cX5_kind 15 = .ok (.invokestatic 40, 3) := by decide +kernel
theorem dX5_kind_18 : decode cX5_kind 18 = .ok (.ifCond .eq 10, 3) := by decide +kernel
theorem dX5_kind_21 : decode cX5_kind 21 = .ok (.aload_n 0, 1) := by decide +kernel
theorem dX5_kind_22 : decode cX5_kind 22 = .ok (.ldc 44, 2) := by decide +kernel
theorem dX5_kind_24 : decode cX5_kind 24 = .ok (.invokevirtual 45, 3) := by decide +kernel
theorem dX5_kind_27 : decode cX5_kind 27 = .ok (.ireturn, 1) := by decide +kernel
theorem dX5_kind_28 : decode cX5_kind 28 = .ok (.iconst 0, 1) := by decide +kernel
theorem dX5_kind_29 : decode cX5_kind 29 = .ok (.istore_n 3, 1) := by decide +kernel
theorem dX5_kind_30 : decode cX5_kind 30 = .ok (.iconst (-1), 1) := by decide +kernel
theorem dX5_kind_31 : decode cX5_kind 31 = .ok (.istore 4, 2) := by decide +kernel
theorem dX5_kind_33 : decode cX5_kind 33 = .ok (.iconst 0, 1) := by decide +kernel
theorem dX5_kind_34 : decode cX5_kind 34 = .ok (.istore 5, 2) := by decide +kernel
theorem dX5_kind_36 : decode cX5_kind 36 = .ok (.iload 5, 2) := by decide +kernel
theorem dX5_kind_38 : decode cX5_kind 38 = .ok (.bipush 6, 2) := by decide +kernel
theorem dX5_kind_40 : decode cX5_kind 40 = .ok (.if_icmp .ge 76, 3) := by decide +kernel
theorem dX5_kind_43 : decode cX5_kind 43 = .ok (.aload_n 0, 1) := by decide +kernel
theorem dX5_kind_44 : decode cX5_kind 44 = .ok (.getfield 16, 3) := by decide +kernel
theorem dX5_kind_47 : decode cX5_kind 47 = .ok (.aload_n 0, 1) := by decide +kernel
theorem dX5_kind_48 : decode cX5_kind 48 = .ok (.getfield 10, 3) := by decide +kernel
theorem dX5_kind_51 : decode cX5_kind 51 = .ok (.invokevirtual 141, 3) := by decide +kernel
theorem dX5_kind_54 : decode cX5_kind 54 = .ok (.aload_n 0, 1) := by decide +kernel
theorem dX5_kind_55 : decode cX5_kind 55 = .ok (.getfield 16, 3) := by decide +kernel
theorem dX5_kind_58 : decode cX5_kind 58 = .ok (.getfield 94, 3) := by decide +kernel
theorem dX5_kind_61 : decode cX5_kind 61 = .ok (.iload_n 1, 1) := by decide +kernel
theorem dX5_kind_62 : decode cX5_kind 62 = .ok (.aaload, 1) := by decide +kernel
theorem dX5_kind_63 : decode cX5_kind 63 = .ok (.iload 5, 2) := by decide +kernel
theorem dX5_kind_65 : decode cX5_kind 65 = .ok (.putfield 122, 3) := by decide +kernel
theorem dX5_kind_68 : decode cX5_kind 68 = .ok (.aload_n 0, 1) := by decide +kernel
theorem dX5_kind_69 : decode cX5_kind 69 = .ok (.getfield 16, 3) := by decide +kernel
theorem dX5_kind_72 : decode cX5_kind 72 = .ok (.iload_n 2, 1) := by decide +kernel
theorem dX5_kind_73 : decode cX5_kind 73 = .ok (.invokevirtual 134, 3) := by decide +kernel
theorem dX5_kind_76 : decode cX5_kind 76 = .ok (.aload_n 0, 1) := by decide +kernel
theorem dX5_kind_77 : decode cX5_kind 77 = .ok (.getfield 16, 3) := by decide +kernel
theorem dX5_kind_80 : decode cX5_kind 80 = .ok (.getfield 94, 3) := by decide +kernel
theorem dX5_kind_83 : decode cX5_kind 83 = .ok (.iload_n 1, 1) := by decide +kernel
theorem dX5_kind_84 : decode cX5_kind 84 = .ok (.aaload, 1) := by decide +kernel
theorem dX5_kind_85 : decode cX5_kind 85 = .ok (.getfield 160, 3) := by decide +kernel
theorem dX5_kind_88 : decode cX5_kind 88 = .ok (.iload 4, 2) := by decide +kernel
theorem dX5_kind_90 : decode cX5_kind 90 = .ok (.if_icmp .le 20, 3) := by decide +kernel
theorem dX5_kind_93 : decode cX5_kind 93 = .ok (.aload_n 0, 1) := by decide +kernel
theorem dX5_kind_94 : decode cX5_kind 94 = .ok (.getfield 16, 3) := by decide +kernel
theorem dX5_kind_97 : decode cX5_kind 97 = .ok (.getfield 94, 3) := by decide +kernel
theorem dX5_kind_100 : decode cX5_kind 100 = .ok (.iload_n 1, 1) := by decide +kernel
theorem dX5_kind_101 : decode cX5_kind 101 = .ok (.aaload, 1) := by decide +kernel
theorem dX5_kind_102 : decode cX5_kind 102 = .ok (.getfield 160, 3) := by decide +kernel
theorem dX5_kind_105 : decode cX5_kind 105 = .ok (.istore 4, 2) := by decide +kernel
theorem dX5_kind_107 : decode cX5_kind 107 = .ok (.iload 5, 2) := by decide +kernel
theorem dX5_kind_109 : decode cX5_kind 109 = .ok (.istore_n 3, 1) := by decide +kernel
theorem dX5_kind_110 : decode cX5_kind 110 = .ok (.iinc 5 1, 3) := by decide +kernel
theorem dX5_kind_113 : decode cX5_kind 113 = .ok (.goto (-77), 3) := by decide +kernel
theorem dX5_kind_116 : decode cX5_kind 116 = .ok (.iload_n 3, 1) := by decide +kernel
theorem dX5_kind_117 : decode cX5_kind 117 = .ok (.ireturn, 1) := by decide +kernel
theorem dX5_view_0 : decode cX5_view 0 = .ok (.aload_n 0, 1) := by decide +kernel
theorem dX5_view_1 : decode cX5_view 1 = .ok (.getfield 10, 3) := by decide +kernel
theorem dX5_view_4 : decode cX5_view 4 = .ok (.iload_n 1, 1) := by decide +kernel
theorem dX5_view_5 : decode cX5_view 5 = .ok (.invokevirtual 90, 3) := by decide +kernel
theorem dX5_view_8 : decode cX5_view 8 = .ok (.ifCond .eq 13, 3) := by decide +kernel
theorem dX5_view_11 : decode cX5_view 11 = .ok (.iload_n 2, 1) := by decide +kernel
theorem dX5_view_12 : decode cX5_view 12 = .ok (.iconst 1, 1) := by decide +kernel
theorem dX5_view_13 : decode cX5_view 13 = .ok (.bipush 32, 2) := by decide +kernel
theorem dX5_view_15 : decode cX5_view 15 = .ok (.invokestatic 40, 3) := by decide +kernel
theorem dX5_view_18 : decode cX5_view 18 = .ok (.ifCond .eq 10, 3) := by decide +kernel
theorem dX5_view_21 : decode cX5_view 21 = .ok (.aload_n 0, 1) := by decide +kernel
theorem dX5_view_22 : decode cX5_view 22 = .ok (.ldc 44, 2) := by decide +kernel
theorem dX5_view_24 : decode cX5_view 24 = .ok (.invokevirtual 45, 3) := by decide +kernel
theorem dX5_view_27 : decode cX5_view 27 = .ok (.ireturn, 1) := by decide +kernel
theorem dX5_view_28 : decode cX5_view 28 = .ok (.iconst 0, 1) := by decide +kernel
theorem dX5_view_29 : decode cX5_view 29 = .ok (.istore_n 3, 1) := by decide +kernel
theorem dX5_view_30 : decode cX5_view 30 = .ok (.iconst (-1), 1) := by decide +kernel
theorem dX5_view_31 : decode cX5_view 31 = .ok (.istore 4, 2) := by decide +kernel
theorem dX5_view_33 : decode cX5_view 33 = .ok (.iconst 0, 1) := by decide +kernel
theorem dX5_view_34 : decode cX5_view 34 = .ok (.istore 5, 2) := by decide +kernel
theorem dX5_view_36 : decode cX5_view 36 = .ok (.iload 5, 2) := by decide +kernel
theorem dX5_view_38 : decode cX5_view 38 = .ok (.sipush 255, 3) := by decide +kernel
theorem dX5_view_41 : decode cX5_view 41 = .ok (.if_icmp .gt 68, 3) := by decide +kernel
theorem dX5_view_44 : decode cX5_view 44 = .ok (.aload_n 0, 1) := by decide +kernel
theorem dX5_view_45 : decode cX5_view 45 = .ok (.getfield 16, 3) := by decide +kernel
theorem dX5_view_48 : decode cX5_view 48 = .ok (.aload_n 0, 1) := by decide +kernel
theorem dX5_view_49 : decode cX5_view 49 = .ok (.getfield 10, 3) := by decide +kernel
theorem dX5_view_52 : decode cX5_view 52 = .ok (.invokevirtual 141, 3) := by decide +kernel
theorem dX5_view_55 : decode cX5_view 55 = .ok (.aload_n 0, 1) := by decide +kernel
theorem dX5_view_56 : decode cX5_view 56 = .ok (.getfield 16, 3) := by decide +kernel
theorem dX5_view_59 : decode cX5_view 59 = .ok (.getfield 94, 3) := by decide +kernel
theorem dX5_view_62 : decode cX5_view 62 = .ok (.iload_n 1, 1) := by decide +kernel
theorem dX5_view_63 : decode cX5_view 63 = .ok (.aaload, 1) := by decide +kernel
theorem dX5_view_64 : decode cX5_view 64 = .ok (.iload 5, 2) := by decide +kernel
theorem dX5_view_66 : decode cX5_view 66 = .ok (.putfield 128, 3) := by decide +kernel
theorem dX5_view_69 : decode cX5_view 69 = .ok (.aload_n 0, 1) := by decide +kernel
theorem dX5_view_70 : decode cX5_view 70 = .ok (.getfield 16, 3) := by decide +kernel
theorem dX5_view_73 : decode cX5_view 73 = .ok (.iload_n 2, 1) := by decide +kernel
theorem dX5_view_74 : decode cX5_view 74 = .ok (.invokevirtual 134, 3) := by decide +kernel
theorem dX5_view_77 : decode cX5_view 77 = .ok (.aload_n 0, 1) := by decide +kernel
theorem dX5_view_78 : decode cX5_view 78 = .ok (.getfield 16, 3) := by decide +kernel
theorem dX5_view_81 : decode cX5_view 81 = .ok (.invokevirtual 75, 3) := by decide +kernel
theorem dX5_view_84 : decode cX5_view 84 = .ok (.invokestatic 155, 3) := by decide +kernel
theorem dX5_view_87 : decode cX5_view 87 = .ok (.istore 6, 2) := by decide +kernel
theorem dX5_view_89 : decode cX5_view 89 = .ok (.iload 6, 2) := by decide +kernel
theorem dX5_view_91 : decode cX5_view 91 = .ok (.iload 4, 2) := by decide +kernel
theorem dX5_view_93 : decode cX5_view 93 = .ok (.if_icmp .le 10, 3) := by decide +kernel
theorem dX5_view_96 : decode cX5_view 96 = .ok (.iload 6, 2) := by decide +kernel
theorem dX5_view_98 : decode cX5_view 98 = .ok (.istore 4, 2) := by decide +kernel
theorem dX5_view_100 : decode cX5_view 100 = .ok (.iload 5, 2) := by decide +kernel
theorem dX5_view_102 : decode cX5_view 102 = .ok (.istore_n 3, 1) := by decide +kernel
theorem dX5_view_103 : decode cX5_view 103 = .ok (.iinc 5 1, 3) := by decide +kernel
theorem dX5_view_106 : decode cX5_view 106 = .ok (.goto (-70), 3) := by decide +kernel
theorem dX5_view_109 : decode cX5_view 109 = .ok (.iload_n 3, 1) := by decide +kernel
theorem dX5_view_110 : decode cX5_view 110 = .ok (.ireturn, 1) := by decide +kernel
theorem dX5_faith_0 : decode cX5_faith 0 = .ok (.aload_n 0, 1) := by decide +kernel
theorem dX5_faith_1 : decode cX5_faith 1 = .ok (.getfield 10, 3) := by decide +kernel
theorem dX5_faith_4 : decode cX5_faith 4 = .ok (.iload_n 1, 1) := by decide +kernel
theorem dX5_faith_5 : decode cX5_faith 5 = .ok (.invokevirtual 90, 3) := by decide +kernel
theorem dX5_faith_8 : decode cX5_faith 8 = .ok (.ifCond .eq 24, 3) := by decide +kernel
theorem dX5_faith_11 : decode cX5_faith 11 = .ok (.iload_n 2, 1) := by decide +kernel
theorem dX5_faith_12 : decode cX5_faith 12 = .ok (.iconst 1, 1) := by decide +kernel
theorem dX5_faith_13 : decode cX5_faith 13 = .ok (.bipush 60, 2) := by decide +kernel
theorem dX5_faith_15 : decode cX5_faith 15 = .ok (.invokestatic 40, 3) := by decide +kernel
theorem dX5_faith_18 : decode cX5_faith 18 = .ok (.ifCond .ne 14, 3) := by decide +kernel
theorem dX5_faith_21 : decode cX5_faith 21 = .ok (.iload_n 3, 1) := by decide +kernel
theorem dX5_faith_22 : decode cX5_faith 22 = .ok (.iconst 0, 1) := by decide +kernel
theorem dX5_faith_23 : decode cX5_faith 23 = .ok (.sipush 9999, 3) := by decide +kernel
theorem dX5_faith_26 : decode cX5_faith 26 = .ok (.invokestatic 40, 3) := by decide +kernel
theorem dX5_faith_29 : decode cX5_faith 29 = .ok (.ifCond .eq 10, 3) := by decide +kernel
theorem dX5_faith_32 : decode cX5_faith 32 = .ok (.aload_n 0, 1) := by decide +kernel
theorem dX5_faith_33 : decode cX5_faith 33 = .ok (.ldc 44, 2) := by decide +kernel
theorem dX5_faith_35 : decode cX5_faith 35 = .ok (.invokevirtual 45, 3) := by decide +kernel
theorem dX5_faith_38 : decode cX5_faith 38 = .ok (.ireturn, 1) := by decide +kernel
theorem dX5_faith_39 : decode cX5_faith 39 = .ok (.iconst 0, 1) := by decide +kernel
theorem dX5_faith_40 : decode cX5_faith 40 = .ok (.istore 4, 2) := by decide +kernel
theorem dX5_faith_42 : decode cX5_faith 42 = .ok (.iload 4, 2) := by decide +kernel
theorem dX5_faith_44 : decode cX5_faith 44 = .ok (.bipush 99, 2) := by decide +kernel
theorem dX5_faith_46 : decode cX5_faith 46 = .ok (.if_icmp .gt 61, 3) := by decide +kernel
theorem dX5_faith_49 : decode cX5_faith 49 = .ok (.aload_n 0, 1) := by decide +kernel
theorem dX5_faith_50 : decode cX5_faith 50 = .ok (.getfield 16, 3) := by decide +kernel
theorem dX5_faith_53 : decode cX5_faith 53 = .ok (.aload_n 0, 1) := by decide +kernel
theorem dX5_faith_54 : decode cX5_faith 54 = .ok (.getfield 10, 3) := by decide +kernel
theorem dX5_faith_57 : decode cX5_faith 57 = .ok (.invokevirtual 141, 3) := by decide +kernel
theorem dX5_faith_60 : decode cX5_faith 60 = .ok (.aload_n 0, 1) := by decide +kernel
theorem dX5_faith_61 : decode cX5_faith 61 = .ok (.getfield 16, 3) := by decide +kernel
theorem dX5_faith_64 : decode cX5_faith 64 = .ok (.getfield 94, 3) := by decide +kernel
theorem dX5_faith_67 : decode cX5_faith 67 = .ok (.iload_n 1, 1) := by decide +kernel
theorem dX5_faith_68 : decode cX5_faith 68 = .ok (.aaload, 1) := by decide +kernel
theorem dX5_faith_69 : decode cX5_faith 69 = .ok (.iload 4, 2) := by decide +kernel
theorem dX5_faith_71 : decode cX5_faith 71 = .ok (.putfield 163, 3) := by decide +kernel
theorem dX5_faith_74 : decode cX5_faith 74 = .ok (.aload_n 0, 1) := by decide +kernel
theorem dX5_faith_75 : decode cX5_faith 75 = .ok (.getfield 16, 3) := by decide +kernel
theorem dX5_faith_78 : decode cX5_faith 78 = .ok (.iload_n 2, 1) := by decide +kernel
theorem dX5_faith_79 : decode cX5_faith 79 = .ok (.invokevirtual 134, 3) := by decide +kernel
theorem dX5_faith_82 : decode cX5_faith 82 = .ok (.aload_n 0, 1) := by decide +kernel
theorem dX5_faith_83 : decode cX5_faith 83 = .ok (.getfield 16, 3) := by decide +kernel
theorem dX5_faith_86 : decode cX5_faith 86 = .ok (.getfield 94, 3) := by decide +kernel
theorem dX5_faith_89 : decode cX5_faith 89 = .ok (.iload_n 1, 1) := by decide +kernel
theorem dX5_faith_90 : decode cX5_faith 90 = .ok (.aaload, 1) := by decide +kernel
theorem dX5_faith_91 : decode cX5_faith 91 = .ok (.getfield 160, 3) := by decide +kernel
theorem dX5_faith_94 : decode cX5_faith 94 = .ok (.iload_n 3, 1) := by decide +kernel
theorem dX5_faith_95 : decode cX5_faith 95 = .ok (.if_icmp .lt 6, 3) := by decide +kernel
theorem dX5_faith_98 : decode cX5_faith 98 = .ok (.iload 4, 2) := by decide +kernel
theorem dX5_faith_100 : decode cX5_faith 100 = .ok (.ireturn, 1) := by decide +kernel
theorem dX5_faith_101 : decode cX5_faith 101 = .ok (.iinc 4 1, 3) := by decide +kernel
theorem dX5_faith_104 : decode cX5_faith 104 = .ok (.goto (-62), 3) := by decide +kernel
theorem dX5_faith_107 : decode cX5_faith 107 = .ok (.aload_n 0, 1) := by decide +kernel
theorem dX5_faith_108 : decode cX5_faith 108 = .ok (.ldc 148, 2) := by decide +kernel
theorem dX5_faith_110 : decode cX5_faith 110 = .ok (.invokevirtual 45, 3) := by decide +kernel
theorem dX5_faith_113 : decode cX5_faith 113 = .ok (.ireturn, 1) := by decide +kernel
theorem dX5_swing_0 : decode cX5_swing 0 = .ok (.aload_n 0, 1) := by decide +kernel
theorem dX5_swing_1 : decode cX5_swing 1 = .ok (.getfield 10, 3) := by decide +kernel
theorem dX5_swing_4 : decode cX5_swing 4 = .ok (.invokevirtual 63, 3) := by decide +kernel
theorem dX5_swing_7 : decode cX5_swing 7 = .ok (.aload_n 0, 1) := by decide +kernel
theorem dX5_swing_8 : decode cX5_swing 8 = .ok (.getfield 10, 3) := by decide +kernel
theorem dX5_swing_11 : decode cX5_swing 11 = .ok (.invokevirtual 166, 3) := by decide +kernel
theorem dX5_swing_14 : decode cX5_swing 14 = .ok (.istore_n 1, 1) := by decide +kernel
theorem dX5_swing_15 : decode cX5_swing 15 = .ok (.iconst 0, 1) := by decide +kernel
theorem dX5_swing_16 : decode cX5_swing 16 = .ok (.istore_n 2, 1) := by decide +kernel
theorem dX5_swing_17 : decode cX5_swing 17 = .ok (.iload_n 2, 1) := by decide +kernel
theorem dX5_swing_18 : decode cX5_swing 18 = .ok (.aload_n 0, 1) := by decide +kernel
theorem dX5_swing_19 : decode cX5_swing 19 = .ok (.getfield 10, 3) := by decide +kernel
theorem dX5_swing_22 : decode cX5_swing 22 = .ok (.getfield 87, 3) := by decide +kernel
theorem dX5_swing_25 : decode cX5_swing 25 = .ok (.if_icmp .ge 71, 3) := by decide +kernel
theorem dX5_swing_28 : decode cX5_swing 28 = .ok (.aload_n 0, 1) := by decide +kernel
theorem dX5_swing_29 : decode cX5_swing 29 = .ok (.getfield 10, 3) := by decide +kernel
theorem dX5_swing_32 : decode cX5_swing 32 = .ok (.getfield 94, 3) := by decide +kernel
theorem dX5_swing_35 : decode cX5_swing 35 = .ok (.iload_n 2, 1) := by decide +kernel
theorem dX5_swing_36 : decode cX5_swing 36 = .ok (.aaload, 1) := by decide +kernel
theorem dX5_swing_37 : decode cX5_swing 37 = .ok (.getfield 152, 3) := by decide +kernel
theorem dX5_swing_40 : decode cX5_swing 40 = .ok (.ifCond .ne 6, 3) := by decide +kernel
theorem dX5_swing_43 : decode cX5_swing 43 = .ok (.goto 47, 3) := by decide +kernel
theorem dX5_swing_46 : decode cX5_swing 46 = .ok (.aload_n 0, 1) := by decide +kernel
theorem dX5_swing_47 : decode cX5_swing 47 = .ok (.getfield 16, 3) := by decide +kernel
theorem dX5_swing_50 : decode cX5_swing 50 = .ok (.aload_n 0, 1) := by decide +kernel
theorem dX5_swing_51 : decode cX5_swing 51 = .ok (.getfield 10, 3) := by decide +kernel
theorem dX5_swing_54 : decode cX5_swing 54 = .ok (.invokevirtual 141, 3) := by decide +kernel
theorem dX5_swing_57 : decode cX5_swing 57 = .ok (.aload_n 0, 1) := by decide +kernel
theorem dX5_swing_58 : decode cX5_swing 58 = .ok (.getfield 16, 3) := by decide +kernel
theorem dX5_swing_61 : decode cX5_swing 61 = .ok (.getfield 94, 3) := by decide +kernel
theorem dX5_swing_64 : decode cX5_swing 64 = .ok (.iload_n 2, 1) := by decide +kernel
theorem dX5_swing_65 : decode cX5_swing 65 = .ok (.aaload, 1) := by decide +kernel
theorem dX5_swing_66 : decode cX5_swing 66 = .ok (.iconst 0, 1) := by decide +kernel
theorem dX5_swing_67 : decode cX5_swing 67 = .ok (.putfield 152, 3) := by decide +kernel
theorem dX5_swing_70 : decode cX5_swing 70 = .ok (.aload_n 0, 1) := by decide +kernel
theorem dX5_swing_71 : decode cX5_swing 71 = .ok (.getfield 16, 3) := by decide +kernel
theorem dX5_swing_74 : decode cX5_swing 74 = .ok (.invokevirtual 63, 3) := by decide +kernel
theorem dX5_swing_77 : decode cX5_swing 77 = .ok (.aload_n 0, 1) := by decide +kernel
theorem dX5_swing_78 : decode cX5_swing 78 = .ok (.getfield 16, 3) := by decide +kernel
theorem dX5_swing_81 : decode cX5_swing 81 = .ok (.invokevirtual 166, 3) := by decide +kernel
theorem dX5_swing_84 : decode cX5_swing 84 = .ok (.iload_n 1, 1) := by decide +kernel
theorem dX5_swing_85 : decode cX5_swing 85 = .ok (.if_icmp .eq 5, 3) := by decide +kernel
theorem dX5_swing_88 : decode cX5_swing 88 = .ok (.iload_n 2, 1) := by decide +kernel
theorem dX5_swing_89 : decode cX5_swing 89 = .ok (.ireturn, 1) := by decide +kernel
theorem dX5_swing_90 : decode cX5_swing 90 = .ok (.iinc 2 1, 3) := by decide +kernel
theorem dX5_swing_93 : decode cX5_swing 93 = .ok (.goto (-76), 3) := by decide +kernel
theorem dX5_swing_96 : decode cX5_swing 96 = .ok (.aload_n 0, 1) := by decide +kernel
theorem dX5_swing_97 : decode cX5_swing 97 = .ok (.ldc 148, 2) := by decide +kernel
theorem dX5_swing_99 : decode cX5_swing 99 = .ok (.invokevirtual 45, 3) := by decide +kernel
theorem dX5_swing_102 : decode cX5_swing 102 = .ok (.ireturn, 1) := by decide +kernel
theorem dX5_revise_0 : decode cX5_revise 0 = .ok (.iload_n 1, 1) := by decide +kernel
theorem dX5_revise_1 : decode cX5_revise 1 = .ok (.iconst 1, 1) := by decide +kernel
theorem dX5_revise_2 : decode cX5_revise 2 = .ok (.bipush 60, 2) := by decide +kernel
theorem dX5_revise_4 : decode cX5_revise 4 = .ok (.invokestatic 40, 3) := by decide +kernel
theorem dX5_revise_7 : decode cX5_revise 7 = .ok (.ifCond .eq 10, 3) := by decide +kernel
theorem dX5_revise_10 : decode cX5_revise 10 = .ok (.aload_n 0, 1) := by decide +kernel
theorem dX5_revise_11 : decode cX5_revise 11 = .ok (.ldc 44, 2) := by decide +kernel
theorem dX5_revise_13 : decode cX5_revise 13 = .ok (.invokevirtual 45, 3) := by decide +kernel
theorem dX5_revise_16 : decode cX5_revise 16 = .ok (.ireturn, 1) := by decide +kernel
theorem dX5_revise_17 : decode cX5_revise 17 = .ok (.iconst 0, 1) := by decide +kernel
theorem dX5_revise_18 : decode cX5_revise 18 = .ok (.istore_n 2, 1) := by decide +kernel
theorem dX5_revise_19 : decode cX5_revise 19 = .ok (.ldc 169, 2) := by decide +kernel
theorem dX5_revise_21 : decode cX5_revise 21 = .ok (.istore_n 3, 1) := by decide +kernel
theorem dX5_revise_22 : decode cX5_revise 22 = .ok (.iconst 0, 1) := by decide +kernel
theorem dX5_revise_23 : decode cX5_revise 23 = .ok (.istore 4, 2) := by decide +kernel
theorem dX5_revise_25 : decode cX5_revise 25 = .ok (.iload 4, 2) := by decide +kernel
theorem dX5_revise_27 : decode cX5_revise 27 = .ok (.bipush 8, 2) := by decide +kernel
theorem dX5_revise_29 : decode cX5_revise 29 = .ok (.if_icmp .ge 66, 3) := by decide +kernel
theorem dX5_revise_32 : decode cX5_revise 32 = .ok (.aload_n 0, 1) := by decide +kernel
theorem dX5_revise_33 : decode cX5_revise 33 = .ok (.getfield 16, 3) := by decide +kernel
theorem dX5_revise_36 : decode cX5_revise 36 = .ok (.aload_n 0, 1) := by decide +kernel
theorem dX5_revise_37 : decode cX5_revise 37 = .ok (.getfield 10, 3) := by decide +kernel
theorem dX5_revise_40 : decode cX5_revise 40 = .ok (.invokevirtual 141, 3) := by decide +kernel
theorem dX5_revise_43 : decode cX5_revise 43 = .ok (.aload_n 0, 1) := by decide +kernel
theorem dX5_revise_44 : decode cX5_revise 44 = .ok (.getfield 16, 3) := by decide +kernel
theorem dX5_revise_47 : decode cX5_revise 47 = .ok (.dup, 1) := by decide +kernel
theorem dX5_revise_48 : decode cX5_revise 48 = .ok (.getfield 49, 3) := by decide +kernel
theorem dX5_revise_51 : decode cX5_revise 51 = .ok (.iconst 1, 1) := by decide +kernel
theorem dX5_revise_52 : decode cX5_revise 52 = .ok (.iload 4, 2) := by decide +kernel
theorem dX5_revise_54 : decode cX5_revise 54 = .ok (.ishl, 1) := by decide +kernel
theorem dX5_revise_55 : decode cX5_revise 55 = .ok (.ixor, 1) := by decide +kernel
theorem dX5_revise_56 : decode cX5_revise 56 = .ok (.putfield 49, 3) := by decide +kernel
theorem dX5_revise_59 : decode cX5_revise 59 = .ok (.aload_n 0, 1) := by decide +kernel
theorem dX5_revise_60 : decode cX5_revise 60 = .ok (.getfield 16, 3) := by decide +kernel
theorem dX5_revise_63 : decode cX5_revise 63 = .ok (.iload_n 1, 1) := by decide +kernel
theorem dX5_revise_64 : decode cX5_revise 64 = .ok (.invokevirtual 134, 3) := by decide +kernel
theorem dX5_revise_67 : decode cX5_revise 67 = .ok (.aload_n 0, 1) := by decide +kernel
theorem dX5_revise_68 : decode cX5_revise 68 = .ok (.getfield 16, 3) := by decide +kernel
theorem dX5_revise_71 : decode cX5_revise 71 = .ok (.iconst 3, 1) := by decide +kernel
theorem dX5_revise_72 : decode cX5_revise 72 = .ok (.invokevirtual 170, 3) := by decide +kernel
theorem dX5_revise_75 : decode cX5_revise 75 = .ok (.istore 5, 2) := by decide +kernel
theorem dX5_revise_77 : decode cX5_revise 77 = .ok (.iload 5, 2) := by decide +kernel
theorem dX5_revise_79 : decode cX5_revise 79 = .ok (.iload_n 3, 1) := by decide +kernel
theorem dX5_revise_80 : decode cX5_revise 80 = .ok (.if_icmp .ge 9, 3) := by decide +kernel
theorem dX5_revise_83 : decode cX5_revise 83 = .ok (.iload 5, 2) := by decide +kernel
theorem dX5_revise_85 : decode cX5_revise 85 = .ok (.istore_n 3, 1) := by decide +kernel
theorem dX5_revise_86 : decode cX5_revise 86 = .ok (.iload 4, 2) := by decide +kernel
theorem dX5_revise_88 : decode cX5_revise 88 = .ok (.istore_n 2, 1) := by decide +kernel
theorem dX5_revise_89 : decode cX5_revise 89 = .ok (.iinc 4 1, 3) := by decide +kernel
theorem dX5_revise_92 : decode cX5_revise 92 = .ok (.goto (-67), 3) := by decide +kernel
theorem dX5_revise_95 : decode cX5_revise 95 = .ok (.iload_n 2, 1) := by decide +kernel
theorem dX5_revise_96 : decode cX5_revise 96 = .ok (.ireturn, 1) := by decide +kernel
theorem dX5_best_0 : decode cX5_best 0 = .ok (.iload_n 1, 1) := by decide +kernel
theorem dX5_best_1 : decode cX5_best 1 = .ok (.iconst 0, 1) := by decide +kernel
theorem dX5_best_2 : decode cX5_best 2 = .ok (.sipush 200, 3) := by decide +kernel
theorem dX5_best_5 : decode cX5_best 5 = .ok (.invokestatic 40, 3) := by decide +kernel
theorem dX5_best_8 : decode cX5_best 8 = .ok (.ifCond .eq 10, 3) := by decide +kernel
theorem dX5_best_11 : decode cX5_best 11 = .ok (.aload_n 0, 1) := by decide +kernel
theorem dX5_best_12 : decode cX5_best 12 = .ok (.ldc 44, 2) := by decide +kernel
theorem dX5_best_14 : decode cX5_best 14 = .ok (.invokevirtual 45, 3) := by decide +kernel
theorem dX5_best_17 : decode cX5_best 17 = .ok (.ireturn, 1) := by decide +kernel
theorem dX5_best_18 : decode cX5_best 18 = .ok (.aload_n 0, 1) := by decide +kernel
theorem dX5_best_19 : decode cX5_best 19 = .ok (.getfield 10, 3) := by decide +kernel
theorem dX5_best_22 : decode cX5_best 22 = .ok (.getfield 87, 3) := by decide +kernel
theorem dX5_best_25 : decode cX5_best 25 = .ok (.ifCond .ne 10, 3) := by decide +kernel
theorem dX5_best_28 : decode cX5_best 28 = .ok (.aload_n 0, 1) := by decide +kernel
theorem dX5_best_29 : decode cX5_best 29 = .ok (.ldc 148, 2) := by decide +kernel
theorem dX5_best_31 : decode cX5_best 31 = .ok (.invokevirtual 45, 3) := by decide +kernel
theorem dX5_best_34 : decode cX5_best 34 = .ok (.ireturn, 1) := by decide +kernel
theorem dX5_best_35 : decode cX5_best 35 = .ok (.aload_n 0, 1) := by decide +kernel
theorem dX5_best_36 : decode cX5_best 36 = .ok (.iload_n 1, 1) := by decide +kernel
theorem dX5_best_37 : decode cX5_best 37 = .ok (.invokevirtual 138, 3) := by decide +kernel
theorem dX5_best_40 : decode cX5_best 40 = .ok (.iconst 0, 1) := by decide +kernel
theorem dX5_best_41 : decode cX5_best 41 = .ok (.istore_n 2, 1) := by decide +kernel
theorem dX5_best_42 : decode cX5_best 42 = .ok (.iconst 1, 1) := by decide +kernel
theorem dX5_best_43 : decode cX5_best 43 = .ok (.istore_n 3, 1) := by decide +kernel
theorem dX5_best_44 : decode cX5_best 44 = .ok (.iload_n 3, 1) := by decide +kernel
theorem dX5_best_45 : decode cX5_best 45 = .ok (.aload_n 0, 1) := by decide +kernel
theorem dX5_best_46 : decode cX5_best 46 = .ok (.getfield 16, 3) := by decide +kernel
theorem dX5_best_49 : decode cX5_best 49 = .ok (.getfield 87, 3) := by decide +kernel
theorem dX5_best_52 : decode cX5_best 52 = .ok (.if_icmp .ge 38, 3) := by decide +kernel
theorem dX5_best_55 : decode cX5_best 55 = .ok (.aload_n 0, 1) := by decide +kernel
theorem dX5_best_56 : decode cX5_best 56 = .ok (.getfield 16, 3) := by decide +kernel
theorem dX5_best_59 : decode cX5_best 59 = .ok (.getfield 94, 3) := by decide +kernel
theorem dX5_best_62 : decode cX5_best 62 = .ok (.iload_n 3, 1) := by decide +kernel
theorem dX5_best_63 : decode cX5_best 63 = .ok (.aaload, 1) := by decide +kernel
theorem dX5_best_64 : decode cX5_best 64 = .ok (.invokevirtual 173, 3) := by decide +kernel
theorem dX5_best_67 : decode cX5_best 67 = .ok (.aload_n 0, 1) := by decide +kernel
theorem dX5_best_68 : decode cX5_best 68 = .ok (.getfield 16, 3) := by decide +kernel
theorem dX5_best_71 : decode cX5_best 71 = .ok (.getfield 94, 3) := by decide +kernel
theorem dX5_best_74 : decode cX5_best 74 = .ok (.iload_n 2, 1) := by decide +kernel
theorem dX5_best_75 : decode cX5_best 75 = .ok (.aaload, 1) := by decide +kernel
theorem dX5_best_76 : decode cX5_best 76 = .ok (.invokevirtual 173, 3) := by decide +kernel
theorem dX5_best_79 : decode cX5_best 79 = .ok (.if_icmp .le 5, 3) := by decide +kernel
theorem dX5_best_82 : decode cX5_best 82 = .ok (.iload_n 3, 1) := by decide +kernel
theorem dX5_best_83 : decode cX5_best 83 = .ok (.istore_n 2, 1) := by decide +kernel
theorem dX5_best_84 : decode cX5_best 84 = .ok (.iinc 3 1, 3) := by decide +kernel
theorem dX5_best_87 : decode cX5_best 87 = .ok (.goto (-43), 3) := by decide +kernel
theorem dX5_best_90 : decode cX5_best 90 = .ok (.iload_n 2, 1) := by decide +kernel
theorem dX5_best_91 : decode cX5_best 91 = .ok (.ireturn, 1) := by decide +kernel
theorem dX5_feed_0 : decode cX5_feed 0 = .ok (.iload_n 2, 1) := by decide +kernel
theorem dX5_feed_1 : decode cX5_feed 1 = .ok (.iconst 1, 1) := by decide +kernel
theorem dX5_feed_2 : decode cX5_feed 2 = .ok (.iconst 4, 1) := by decide +kernel
theorem dX5_feed_3 : decode cX5_feed 3 = .ok (.invokestatic 40, 3) := by decide +kernel
theorem dX5_feed_6 : decode cX5_feed 6 = .ok (.ifCond .eq 10, 3) := by decide +kernel
theorem dX5_feed_9 : decode cX5_feed 9 = .ok (.aload_n 0, 1) := by decide +kernel
theorem dX5_feed_10 : decode cX5_feed 10 = .ok (.ldc 44, 2) := by decide +kernel
theorem dX5_feed_12 : decode cX5_feed 12 = .ok (.invokevirtual 45, 3) := by decide +kernel
theorem dX5_feed_15 : decode cX5_feed 15 = .ok (.ireturn, 1) := by decide +kernel
theorem dX5_feed_16 : decode cX5_feed 16 = .ok (.aload_n 0, 1) := by decide +kernel
theorem dX5_feed_17 : decode cX5_feed 17 = .ok (.getfield 25, 3) := by decide +kernel
theorem dX5_feed_20 : decode cX5_feed 20 = .ok (.getfield 176, 3) := by decide +kernel
theorem dX5_feed_23 : decode cX5_feed 23 = .ok (.getfield 180, 3) := by decide +kernel
theorem dX5_feed_26 : decode cX5_feed 26 = .ok (.bipush 120, 2) := by decide +kernel
theorem dX5_feed_28 : decode cX5_feed 28 = .ok (.iload_n 2, 1) := by decide +kernel
theorem dX5_feed_29 : decode cX5_feed 29 = .ok (.isub, 1) := by decide +kernel
theorem dX5_feed_30 : decode cX5_feed 30 = .ok (.if_icmp .le 10, 3) := by decide +kernel
theorem dX5_feed_33 : decode cX5_feed 33 = .ok (.aload_n 0, 1) := by decide +kernel
theorem dX5_feed_34 : decode cX5_feed 34 = .ok (.ldc 82, 2) := by decide +kernel
theorem dX5_feed_36 : decode cX5_feed 36 = .ok (.invokevirtual 45, 3) := by decide +kernel
theorem dX5_feed_39 : decode cX5_feed 39 = .ok (.ireturn, 1) := by decide +kernel
theorem dX5_feed_40 : decode cX5_feed 40 = .ok (.iload_n 2, 1) := by decide +kernel
theorem dX5_feed_41 : decode cX5_feed 41 = .ok (.iconst 1, 1) := by decide +kernel
theorem dX5_feed_42 : decode cX5_feed 42 = .ok (.isub, 1) := by decide +kernel
theorem dX5_feed_43 : decode cX5_feed 43 = .ok (.istore_n 3, 1) := by decide +kernel
theorem dX5_feed_44 : decode cX5_feed 44 = .ok (.iload_n 3, 1) := by decide +kernel
theorem dX5_feed_45 : decode cX5_feed 45 = .ok (.ifCond .lt 29, 3) := by decide +kernel
theorem dX5_feed_48 : decode cX5_feed 48 = .ok (.aload_n 0, 1) := by decide +kernel
theorem dX5_feed_49 : decode cX5_feed 49 = .ok (.getfield 25, 3) := by decide +kernel
theorem dX5_feed_52 : decode cX5_feed 52 = .ok (.getfield 176, 3) := by decide +kernel
theorem dX5_feed_55 : decode cX5_feed 55 = .ok (.iload_n 1, 1) := by decide +kernel
theorem dX5_feed_56 : decode cX5_feed 56 = .ok (.bipush 8, 2) := by decide +kernel
theorem dX5_feed_58 : decode cX5_feed 58 = .ok (.iload_n 3, 1) := by decide +kernel
theorem dX5_feed_59 : decode cX5_feed 59 = .ok (.imul, 1) := by decide +kernel
theorem dX5_feed_60 : decode cX5_feed 60 = .ok (.iushr, 1) := by decide +kernel
theorem dX5_feed_61 : decode cX5_feed 61 = .ok (.sipush 255, 3) := by decide +kernel
theorem dX5_feed_64 : decode cX5_feed 64 = .ok (.iand, 1) := by decide +kernel
theorem dX5_feed_65 : decode cX5_feed 65 = .ok (.invokevirtual 185, 3) := by decide +kernel
theorem dX5_feed_68 : decode cX5_feed 68 = .ok (.iinc 3 (-1), 3) := by decide +kernel
theorem dX5_feed_71 : decode cX5_feed 71 = .ok (.goto (-27), 3) := by decide +kernel
theorem dX5_feed_74 : decode cX5_feed 74 = .ok (.aload_n 0, 1) := by decide +kernel
theorem dX5_feed_75 : decode cX5_feed 75 = .ok (.getfield 25, 3) := by decide +kernel
theorem dX5_feed_78 : decode cX5_feed 78 = .ok (.getfield 176, 3) := by decide +kernel
theorem dX5_feed_81 : decode cX5_feed 81 = .ok (.getfield 180, 3) := by decide +kernel
theorem dX5_feed_84 : decode cX5_feed 84 = .ok (.ireturn, 1) := by decide +kernel
theorem dX5_wipe_0 : decode cX5_wipe 0 = .ok (.aload_n 0, 1) := by decide +kernel
theorem dX5_wipe_1 : decode cX5_wipe 1 = .ok (.getfield 25, 3) := by decide +kernel
theorem dX5_wipe_4 : decode cX5_wipe 4 = .ok (.getfield 176, 3) := by decide +kernel
theorem dX5_wipe_7 : decode cX5_wipe 7 = .ok (.getfield 180, 3) := by decide +kernel
theorem dX5_wipe_10 : decode cX5_wipe 10 = .ok (.istore_n 1, 1) := by decide +kernel
theorem dX5_wipe_11 : decode cX5_wipe 11 = .ok (.aload_n 0, 1) := by decide +kernel
theorem dX5_wipe_12 : decode cX5_wipe 12 = .ok (.getfield 25, 3) := by decide +kernel
theorem dX5_wipe_15 : decode cX5_wipe 15 = .ok (.getfield 176, 3) := by decide +kernel
theorem dX5_wipe_18 : decode cX5_wipe 18 = .ok (.iconst 0, 1) := by decide +kernel
theorem dX5_wipe_19 : decode cX5_wipe 19 = .ok (.putfield 180, 3) := by decide +kernel
theorem dX5_wipe_22 : decode cX5_wipe 22 = .ok (.iload_n 1, 1) := by decide +kernel
theorem dX5_wipe_23 : decode cX5_wipe 23 = .ok (.ireturn, 1) := by decide +kernel
theorem dX5_lobby_0 : decode cX5_lobby 0 = .ok (.aload_n 0, 1) := by decide +kernel
theorem dX5_lobby_1 : decode cX5_lobby 1 = .ok (.getfield 16, 3) := by decide +kernel
theorem dX5_lobby_4 : decode cX5_lobby 4 = .ok (.aload_n 0, 1) := by decide +kernel
theorem dX5_lobby_5 : decode cX5_lobby 5 = .ok (.getfield 10, 3) := by decide +kernel
theorem dX5_lobby_8 : decode cX5_lobby 8 = .ok (.invokevirtual 141, 3) := by decide +kernel
theorem dX5_lobby_11 : decode cX5_lobby 11 = .ok (.aload_n 0, 1) := by decide +kernel
theorem dX5_lobby_12 : decode cX5_lobby 12 = .ok (.getfield 25, 3) := by decide +kernel
theorem dX5_lobby_15 : decode cX5_lobby 15 = .ok (.aload_n 0, 1) := by decide +kernel
theorem dX5_lobby_16 : decode cX5_lobby 16 = .ok (.getfield 16, 3) := by decide +kernel
theorem dX5_lobby_19 : decode cX5_lobby 19 = .ok (.invokevirtual 187, 3) := by decide +kernel
theorem dX5_lobby_22 : decode cX5_lobby 22 = .ok (.istore_n 1, 1) := by decide +kernel
theorem dX5_lobby_23 : decode cX5_lobby 23 = .ok (.iload_n 1, 1) := by decide +kernel
theorem dX5_lobby_24 : decode cX5_lobby 24 = .ok (.ifCond .lt 14, 3) := by decide +kernel
theorem dX5_lobby_27 : decode cX5_lobby 27 = .ok (.aload_n 0, 1) := by decide +kernel
theorem dX5_lobby_28 : decode cX5_lobby 28 = .ok (.getfield 10, 3) := by decide +kernel
theorem dX5_lobby_31 : decode cX5_lobby 31 = .ok (.aload_n 0, 1) := by decide +kernel
theorem dX5_lobby_32 : decode cX5_lobby 32 = .ok (.getfield 16, 3) := by decide +kernel
theorem dX5_lobby_35 : decode cX5_lobby 35 = .ok (.invokevirtual 141, 3) := by decide +kernel
theorem dX5_lobby_38 : decode cX5_lobby 38 = .ok (.aload_n 0, 1) := by decide +kernel
theorem dX5_lobby_39 : decode cX5_lobby 39 = .ok (.getfield 25, 3) := by decide +kernel
theorem dX5_lobby_42 : decode cX5_lobby 42 = .ok (.getfield 176, 3) := by decide +kernel
theorem dX5_lobby_45 : decode cX5_lobby 45 = .ok (.iconst 0, 1) := by decide +kernel
theorem dX5_lobby_46 : decode cX5_lobby 46 = .ok (.putfield 180, 3) := by decide +kernel
theorem dX5_lobby_49 : decode cX5_lobby 49 = .ok (.iload_n 1, 1) := by decide +kernel
theorem dX5_lobby_50 : decode cX5_lobby 50 = .ok (.ireturn, 1) := by decide +kernel
theorem dX5_sheet_0 : decode cX5_sheet 0 = .ok (.iload_n 1, 1) := by decide +kernel
theorem dX5_sheet_1 : decode cX5_sheet 1 = .ok (.invokestatic 191, 3) := by decide +kernel
theorem dX5_sheet_4 : decode cX5_sheet 4 = .ok (.ifCond .ne 10, 3) := by decide +kernel
theorem dX5_sheet_7 : decode cX5_sheet 7 = .ok (.iload_n 2, 1) := by decide +kernel
theorem dX5_sheet_8 : decode cX5_sheet 8 = .ok (.invokestatic 194, 3) := by decide +kernel
theorem dX5_sheet_11 : decode cX5_sheet 11 = .ok (.ifCond .ne 10, 3) := by decide +kernel
theorem dX5_sheet_14 : decode cX5_sheet 14 = .ok (.aload_n 0, 1) := by decide +kernel
theorem dX5_sheet_15 : decode cX5_sheet 15 = .ok (.ldc 44, 2) := by decide +kernel
theorem dX5_sheet_17 : decode cX5_sheet 17 = .ok (.invokevirtual 45, 3) := by decide +kernel
theorem dX5_sheet_20 : decode cX5_sheet 20 = .ok (.ireturn, 1) := by decide +kernel
theorem dX5_sheet_21 : decode cX5_sheet 21 = .ok (.iload_n 3, 1) := by decide +kernel
theorem dX5_sheet_22 : decode cX5_sheet 22 = .ok (.ifCond .ge 10, 3) := by decide +kernel
theorem dX5_sheet_25 : decode cX5_sheet 25 = .ok (.aload_n 0, 1) := by decide +kernel
theorem dX5_sheet_26 : decode cX5_sheet 26 = .ok (.ldc 197, 2) := by decide +kernel
theorem dX5_sheet_28 : decode cX5_sheet 28 = .ok (.invokevirtual 45, 3) := by decide +kernel
theorem dX5_sheet_31 : decode cX5_sheet 31 = .ok (.ireturn, 1) := by decide +kernel
theorem dX5_sheet_32 : decode cX5_sheet 32 = .ok (.iload_n 3, 1) := by decide +kernel
theorem dX5_sheet_33 : decode cX5_sheet 33 = .ok (.bipush 40, 2) := by decide +kernel
theorem dX5_sheet_35 : decode cX5_sheet 35 = .ok (.if_icmp .le 10, 3) := by decide +kernel
theorem dX5_sheet_38 : decode cX5_sheet 38 = .ok (.aload_n 0, 1) := by decide +kernel
theorem dX5_sheet_39 : decode cX5_sheet 39 = .ok (.ldc 44, 2) := by decide +kernel
theorem dX5_sheet_41 : decode cX5_sheet 41 = .ok (.invokevirtual 45, 3) := by decide +kernel
theorem dX5_sheet_44 : decode cX5_sheet 44 = .ok (.ireturn, 1) := by decide +kernel
theorem dX5_sheet_45 : decode cX5_sheet 45 = .ok (.aload_n 0, 1) := by decide +kernel
theorem dX5_sheet_46 : decode cX5_sheet 46 = .ok (.getfield 31, 3) := by decide +kernel
theorem dX5_sheet_49 : decode cX5_sheet 49 = .ok (.iload_n 1, 1) := by decide +kernel
theorem dX5_sheet_50 : decode cX5_sheet 50 = .ok (.aaload, 1) := by decide +kernel
theorem dX5_sheet_51 : decode cX5_sheet 51 = .ok (.iload_n 2, 1) := by decide +kernel
theorem dX5_sheet_52 : decode cX5_sheet 52 = .ok (.iload_n 3, 1) := by decide +kernel
theorem dX5_sheet_53 : decode cX5_sheet 53 = .ok (.invokevirtual 198, 3) := by decide +kernel
theorem dX5_sheet_56 : decode cX5_sheet 56 = .ok (.aload_n 0, 1) := by decide +kernel
theorem dX5_sheet_57 : decode cX5_sheet 57 = .ok (.getfield 31, 3) := by decide +kernel
theorem dX5_sheet_60 : decode cX5_sheet 60 = .ok (.iload_n 1, 1) := by decide +kernel
theorem dX5_sheet_61 : decode cX5_sheet 61 = .ok (.aaload, 1) := by decide +kernel
theorem dX5_sheet_62 : decode cX5_sheet 62 = .ok (.getfield 201, 3) := by decide +kernel
theorem dX5_sheet_65 : decode cX5_sheet 65 = .ok (.ireturn, 1) := by decide +kernel
theorem dX5_write_0 : decode cX5_write 0 = .ok (.iload_n 1, 1) := by decide +kernel
theorem dX5_write_1 : decode cX5_write 1 = .ok (.invokestatic 191, 3) := by decide +kernel
theorem dX5_write_4 : decode cX5_write 4 = .ok (.ifCond .eq 11, 3) := by decide +kernel
theorem dX5_write_7 : decode cX5_write 7 = .ok (.aload_n 0, 1) := by decide +kernel
theorem dX5_write_8 : decode cX5_write 8 = .ok (.ldc 44, 2) := by decide +kernel
theorem dX5_write_10 : decode cX5_write 10 = .ok (.invokevirtual 45, 3) := by decide +kernel
theorem dX5_write_13 : decode cX5_write 13 = .ok (.i2l, 1) := by decide +kernel
theorem dX5_write_14 : decode cX5_write 14 = .ok (.lreturn, 1) := by decide +kernel
theorem dX5_write_15 : decode cX5_write 15 = .ok (.aload_n 0, 1) := by decide +kernel
theorem dX5_write_16 : decode cX5_write 16 = .ok (.getfield 31, 3) := by decide +kernel
theorem dX5_write_19 : decode cX5_write 19 = .ok (.iload_n 1, 1) := by decide +kernel
theorem dX5_write_20 : decode cX5_write 20 = .ok (.aaload, 1) := by decide +kernel
theorem dX5_write_21 : decode cX5_write 21 = .ok (.invokevirtual 202, 3) := by decide +kernel
theorem dX5_write_24 : decode cX5_write 24 = .ok (.ifCond .eq 11, 3) := by decide +kernel
theorem dX5_write_27 : decode cX5_write 27 = .ok (.aload_n 0, 1) := by decide +kernel
theorem dX5_write_28 : decode cX5_write 28 = .ok (.ldc 205, 2) := by decide +kernel
theorem dX5_write_30 : decode cX5_write 30 = .ok (.invokevirtual 45, 3) := by decide +kernel
theorem dX5_write_33 : decode cX5_write 33 = .ok (.i2l, 1) := by decide +kernel
theorem dX5_write_34 : decode cX5_write 34 = .ok (.lreturn, 1) := by decide +kernel
theorem dX5_write_35 : decode cX5_write 35 = .ok (.iload_n 2, 1) := by decide +kernel
theorem dX5_write_36 : decode cX5_write 36 = .ok (.iconst 0, 1) := by decide +kernel
theorem dX5_write_37 : decode cX5_write 37 = .ok (.aload_n 0, 1) := by decide +kernel
theorem dX5_write_38 : decode cX5_write 38 = .ok (.getfield 31, 3) := by decide +kernel
theorem dX5_write_41 : decode cX5_write 41 = .ok (.iload_n 1, 1) := by decide +kernel
theorem dX5_write_42 : decode cX5_write 42 = .ok (.aaload, 1) := by decide +kernel
theorem dX5_write_43 : decode cX5_write 43 = .ok (.getfield 201, 3) := by decide +kernel
theorem dX5_write_46 : decode cX5_write 46 = .ok (.iconst 1, 1) := by decide +kernel
theorem dX5_write_47 : decode cX5_write 47 = .ok (.isub, 1) := by decide +kernel
theorem dX5_write_48 : decode cX5_write 48 = .ok (.invokestatic 40, 3) := by decide +kernel
theorem dX5_write_51 : decode cX5_write 51 = .ok (.ifCond .eq 11, 3) := by decide +kernel
theorem dX5_write_54 : decode cX5_write 54 = .ok (.aload_n 0, 1) := by decide +kernel
theorem dX5_write_55 : decode cX5_write 55 = .ok (.ldc 44, 2) := by decide +kernel
theorem dX5_write_57 : decode cX5_write 57 = .ok (.invokevirtual 45, 3) := by decide +kernel
theorem dX5_write_60 : decode cX5_write 60 = .ok (.i2l, 1) := by decide +kernel
theorem dX5_write_61 : decode cX5_write 61 = .ok (.lreturn, 1) := by decide +kernel
theorem dX5_write_62 : decode cX5_write 62 = .ok (.aload_n 0, 1) := by decide +kernel
theorem dX5_write_63 : decode cX5_write 63 = .ok (.getfield 31, 3) := by decide +kernel
theorem dX5_write_66 : decode cX5_write 66 = .ok (.iload_n 1, 1) := by decide +kernel
theorem dX5_write_67 : decode cX5_write 67 = .ok (.aaload, 1) := by decide +kernel
theorem dX5_write_68 : decode cX5_write 68 = .ok (.getfield 206, 3) := by decide +kernel
theorem dX5_write_71 : decode cX5_write 71 = .ok (.iload_n 2, 1) := by decide +kernel
theorem dX5_write_72 : decode cX5_write 72 = .ok (.laload, 1) := by decide +kernel
theorem dX5_write_73 : decode cX5_write 73 = .ok (.lstore 5, 2) := by decide +kernel
theorem dX5_write_75 : decode cX5_write 75 = .ok (.aload_n 0, 1) := by decide +kernel
theorem dX5_write_76 : decode cX5_write 76 = .ok (.getfield 31, 3) := by decide +kernel
theorem dX5_write_79 : decode cX5_write 79 = .ok (.iload_n 1, 1) := by decide +kernel
theorem dX5_write_80 : decode cX5_write 80 = .ok (.aaload, 1) := by decide +kernel
theorem dX5_write_81 : decode cX5_write 81 = .ok (.iload_n 2, 1) := by decide +kernel
theorem dX5_write_82 : decode cX5_write 82 = .ok (.lload_n 3, 1) := by decide +kernel
theorem dX5_write_83 : decode cX5_write 83 = .ok (.invokevirtual 210, 3) := by decide +kernel
theorem dX5_write_86 : decode cX5_write 86 = .ok (.lload 5, 2) := by decide +kernel
theorem dX5_write_88 : decode cX5_write 88 = .ok (.lreturn, 1) := by decide +kernel
theorem dX5_copy_0 : decode cX5_copy 0 = .ok (.iload_n 1, 1) := by decide +kernel
theorem dX5_copy_1 : decode cX5_copy 1 = .ok (.invokestatic 191, 3) := by decide +kernel
theorem dX5_copy_4 : decode cX5_copy 4 = .ok (.ifCond .ne 10, 3) := by decide +kernel
theorem dX5_copy_7 : decode cX5_copy 7 = .ok (.iload_n 3, 1) := by decide +kernel
theorem dX5_copy_8 : decode cX5_copy 8 = .ok (.invokestatic 191, 3) := by decide +kernel
theorem dX5_copy_11 : decode cX5_copy 11 = .ok (.ifCond .eq 10, 3) := by decide +kernel
theorem dX5_copy_14 : decode cX5_copy 14 = .ok (.aload_n 0, 1) := by decide +kernel
theorem dX5_copy_15 : decode cX5_copy 15 = .ok (.ldc 44, 2) := by decide +kernel
theorem dX5_copy_17 : decode cX5_copy 17 = .ok (.invokevirtual 45, 3) := by decide +kernel
theorem dX5_copy_20 : decode cX5_copy 20 = .ok (.ireturn, 1) := by decide +kernel
theorem dX5_copy_21 : decode cX5_copy 21 = .ok (.aload_n 0, 1) := by decide +kernel
theorem dX5_copy_22 : decode cX5_copy 22 = .ok (.getfield 31, 3) := by decide +kernel
theorem dX5_copy_25 : decode cX5_copy 25 = .ok (.iload_n 1, 1) := by decide +kernel
theorem dX5_copy_26 : decode cX5_copy 26 = .ok (.aaload, 1) := by decide +kernel
theorem dX5_copy_27 : decode cX5_copy 27 = .ok (.invokevirtual 202, 3) := by decide +kernel
theorem dX5_copy_30 : decode cX5_copy 30 = .ok (.ifCond .ne 15, 3) := by decide +kernel
theorem dX5_copy_33 : decode cX5_copy 33 = .ok (.aload_n 0, 1) := by decide +kernel
theorem dX5_copy_34 : decode cX5_copy 34 = .ok (.getfield 31, 3) := by decide +kernel
theorem dX5_copy_37 : decode cX5_copy 37 = .ok (.iload_n 3, 1) := by decide +kernel
theorem dX5_copy_38 : decode cX5_copy 38 = .ok (.aaload, 1) := by decide +kernel
theorem dX5_copy_39 : decode cX5_copy 39 = .ok (.invokevirtual 202, 3) := by decide +kernel
theorem dX5_copy_42 : decode cX5_copy 42 = .ok (.ifCond .eq 10, 3) := by decide +kernel
theorem dX5_copy_45 : decode cX5_copy 45 = .ok (.aload_n 0, 1) := by decide +kernel
theorem dX5_copy_46 : decode cX5_copy 46 = .ok (.ldc 205, 2) := by decide +kernel
theorem dX5_copy_48 : decode cX5_copy 48 = .ok (.invokevirtual 45, 3) := by decide +kernel
theorem dX5_copy_51 : decode cX5_copy 51 = .ok (.ireturn, 1) := by decide +kernel
theorem dX5_copy_52 : decode cX5_copy 52 = .ok (.aload_n 0, 1) := by decide +kernel
theorem dX5_copy_53 : decode cX5_copy 53 = .ok (.getfield 31, 3) := by decide +kernel
theorem dX5_copy_56 : decode cX5_copy 56 = .ok (.iload_n 1, 1) := by decide +kernel
theorem dX5_copy_57 : decode cX5_copy 57 = .ok (.aaload, 1) := by decide +kernel
theorem dX5_copy_58 : decode cX5_copy 58 = .ok (.getfield 213, 3) := by decide +kernel
theorem dX5_copy_61 : decode cX5_copy 61 = .ok (.aload_n 0, 1) := by decide +kernel
theorem dX5_copy_62 : decode cX5_copy 62 = .ok (.getfield 31, 3) := by decide +kernel
theorem dX5_copy_65 : decode cX5_copy 65 = .ok (.iload_n 3, 1) := by decide +kernel
theorem dX5_copy_66 : decode cX5_copy 66 = .ok (.aaload, 1) := by decide +kernel
theorem dX5_copy_67 : decode cX5_copy 67 = .ok (.getfield 213, 3) := by decide +kernel
theorem dX5_copy_70 : decode cX5_copy 70 = .ok (.if_icmp .eq 10, 3) := by decide +kernel
theorem dX5_copy_73 : decode cX5_copy 73 = .ok (.aload_n 0, 1) := by decide +kernel
theorem dX5_copy_74 : decode cX5_copy 74 = .ok (.ldc 131, 2) := by decide +kernel
theorem dX5_copy_76 : decode cX5_copy 76 = .ok (.invokevirtual 45, 3) := by decide +kernel
theorem dX5_copy_79 : decode cX5_copy 79 = .ok (.ireturn, 1) := by decide +kernel
theorem dX5_copy_80 : decode cX5_copy 80 = .ok (.aload_n 0, 1) := by decide +kernel
theorem dX5_copy_81 : decode cX5_copy 81 = .ok (.getfield 31, 3) := by decide +kernel
theorem dX5_copy_84 : decode cX5_copy 84 = .ok (.iload_n 1, 1) := by decide +kernel
theorem dX5_copy_85 : decode cX5_copy 85 = .ok (.aaload, 1) := by decide +kernel
theorem dX5_copy_86 : decode cX5_copy 86 = .ok (.iload_n 2, 1) := by decide +kernel
theorem dX5_copy_87 : decode cX5_copy 87 = .ok (.iload 5, 2) := by decide +kernel
theorem dX5_copy_89 : decode cX5_copy 89 = .ok (.invokevirtual 216, 3) := by decide +kernel
theorem dX5_copy_92 : decode cX5_copy 92 = .ok (.ifCond .eq 19, 3) := by decide +kernel
theorem dX5_copy_95 : decode cX5_copy 95 = .ok (.aload_n 0, 1) := by decide +kernel
theorem dX5_copy_96 : decode cX5_copy 96 = .ok (.getfield 31, 3) := by decide +kernel
theorem dX5_copy_99 : decode cX5_copy 99 = .ok (.iload_n 3, 1) := by decide +kernel
theorem dX5_copy_100 : decode cX5_copy 100 = .ok (.aaload, 1) := by decide +kernel
theorem dX5_copy_101 : decode cX5_copy 101 = .ok (.iload 4, 2) := by decide +kernel
theorem dX5_copy_103 : decode cX5_copy 103 = .ok (.iload 5, 2) := by decide +kernel
theorem dX5_copy_105 : decode cX5_copy 105 = .ok (.invokevirtual 216, 3) := by decide +kernel
theorem dX5_copy_108 : decode cX5_copy 108 = .ok (.ifCond .ne 10, 3) := by decide +kernel
theorem dX5_copy_111 : decode cX5_copy 111 = .ok (.aload_n 0, 1) := by decide +kernel
theorem dX5_copy_112 : decode cX5_copy 112 = .ok (.ldc 44, 2) := by decide +kernel
theorem dX5_copy_114 : decode cX5_copy 114 = .ok (.invokevirtual 45, 3) := by decide +kernel
theorem dX5_copy_117 : decode cX5_copy 117 = .ok (.ireturn, 1) := by decide +kernel
theorem dX5_copy_118 : decode cX5_copy 118 = .ok (.aload_n 0, 1) := by decide +kernel
theorem dX5_copy_119 : decode cX5_copy 119 = .ok (.getfield 31, 3) := by decide +kernel
theorem dX5_copy_122 : decode cX5_copy 122 = .ok (.iload_n 1, 1) := by decide +kernel
theorem dX5_copy_123 : decode cX5_copy 123 = .ok (.aaload, 1) := by decide +kernel
theorem dX5_copy_124 : decode cX5_copy 124 = .ok (.getfield 206, 3) := by decide +kernel
theorem dX5_copy_127 : decode cX5_copy 127 = .ok (.iload_n 2, 1) := by decide +kernel
theorem dX5_copy_128 : decode cX5_copy 128 = .ok (.aload_n 0, 1) := by decide +kernel
theorem dX5_copy_129 : decode cX5_copy 129 = .ok (.getfield 31, 3) := by decide +kernel
theorem dX5_copy_132 : decode cX5_copy 132 = .ok (.iload_n 3, 1) := by decide +kernel
theorem dX5_copy_133 : decode cX5_copy 133 = .ok (.aaload, 1) := by decide +kernel
theorem dX5_copy_134 : decode cX5_copy 134 = .ok (.getfield 206, 3) := by decide +kernel
theorem dX5_copy_137 : decode cX5_copy 137 = .ok (.iload 4, 2) := by decide +kernel
theorem dX5_copy_139 : decode cX5_copy 139 = .ok (.iload 5, 2) := by decide +kernel
theorem dX5_copy_141 : decode cX5_copy 141 = .ok (.invokestatic 220, 3) := by decide +kernel
theorem dX5_copy_144 : decode cX5_copy 144 = .ok (.iload 5, 2) := by decide +kernel
theorem dX5_copy_146 : decode cX5_copy 146 = .ok (.ireturn, 1) := by decide +kernel
theorem dX5_lays_0 : decode cX5_lays 0 = .ok (.iload_n 1, 1) := by decide +kernel
theorem dX5_lays_1 : decode cX5_lays 1 = .ok (.invokestatic 191, 3) := by decide +kernel
theorem dX5_lays_4 : decode cX5_lays 4 = .ok (.ifCond .eq 10, 3) := by decide +kernel
theorem dX5_lays_7 : decode cX5_lays 7 = .ok (.aload_n 0, 1) := by decide +kernel
theorem dX5_lays_8 : decode cX5_lays 8 = .ok (.ldc 44, 2) := by decide +kernel
theorem dX5_lays_10 : decode cX5_lays 10 = .ok (.invokevirtual 45, 3) := by decide +kernel
theorem dX5_lays_13 : decode cX5_lays 13 = .ok (.ireturn, 1) := by decide +kernel
theorem dX5_lays_14 : decode cX5_lays 14 = .ok (.aload_n 0, 1) := by decide +kernel
theorem dX5_lays_15 : decode cX5_lays 15 = .ok (.getfield 31, 3) := by decide +kernel
theorem dX5_lays_18 : decode cX5_lays 18 = .ok (.iload_n 1, 1) := by decide +kernel
theorem dX5_lays_19 : decode cX5_lays 19 = .ok (.aaload, 1) := by decide +kernel
theorem dX5_lays_20 : decode cX5_lays 20 = .ok (.invokevirtual 202, 3) := by decide +kernel
theorem dX5_lays_23 : decode cX5_lays 23 = .ok (.ifCond .eq 10, 3) := by decide +kernel
theorem dX5_lays_26 : decode cX5_lays 26 = .ok (.aload_n 0, 1) := by decide +kernel
theorem dX5_lays_27 : decode cX5_lays 27 = .ok (.ldc 205, 2) := by decide +kernel
theorem dX5_lays_29 : decode cX5_lays 29 = .ok (.invokevirtual 45, 3) := by decide +kernel
theorem dX5_lays_32 : decode cX5_lays 32 = .ok (.ireturn, 1) := by decide +kernel
theorem dX5_lays_33 : decode cX5_lays 33 = .ok (.iconst 0, 1) := by decide +kernel
theorem dX5_lays_34 : decode cX5_lays 34 = .ok (.istore_n 2, 1) := by decide +kernel
theorem dX5_lays_35 : decode cX5_lays 35 = .ok (.iconst 0, 1) := by decide +kernel
theorem dX5_lays_36 : decode cX5_lays 36 = .ok (.istore_n 3, 1) := by decide +kernel
theorem dX5_lays_37 : decode cX5_lays 37 = .ok (.iload_n 3, 1) := by decide +kernel
theorem dX5_lays_38 : decode cX5_lays 38 = .ok (.aload_n 0, 1) := by decide +kernel
theorem dX5_lays_39 : decode cX5_lays 39 = .ok (.getfield 31, 3) := by decide +kernel
theorem dX5_lays_42 : decode cX5_lays 42 = .ok (.iload_n 1, 1) := by decide +kernel
theorem dX5_lays_43 : decode cX5_lays 43 = .ok (.aaload, 1) := by decide +kernel
theorem dX5_lays_44 : decode cX5_lays 44 = .ok (.getfield 201, 3) := by decide +kernel
theorem dX5_lays_47 : decode cX5_lays 47 = .ok (.if_icmp .ge 67, 3) := by decide +kernel
theorem dX5_lays_50 : decode cX5_lays 50 = .ok (.iload_n 3, 1) := by decide +kernel
theorem dX5_lays_51 : decode cX5_lays 51 = .ok (.aload_n 0, 1) := by decide +kernel
theorem dX5_lays_52 : decode cX5_lays 52 = .ok (.getfield 10, 3) := by decide +kernel
theorem dX5_lays_55 : decode cX5_lays 55 = .ok (.getfield 87, 3) := by decide +kernel
theorem dX5_lays_58 : decode cX5_lays 58 = .ok (.if_icmp .ge 56, 3) := by decide +kernel
theorem dX5_lays_61 : decode cX5_lays 61 = .ok (.aload_n 0, 1) := by decide +kernel
theorem dX5_lays_62 : decode cX5_lays 62 = .ok (.getfield 31, 3) := by decide +kernel
theorem dX5_lays_65 : decode cX5_lays 65 = .ok (.iload_n 1, 1) := by decide +kernel
theorem dX5_lays_66 : decode cX5_lays 66 = .ok (.aaload, 1) := by decide +kernel
theorem dX5_lays_67 : decode cX5_lays 67 = .ok (.getfield 206, 3) := by decide +kernel
theorem dX5_lays_70 : decode cX5_lays 70 = .ok (.iload_n 3, 1) := by decide +kernel
theorem dX5_lays_71 : decode cX5_lays 71 = .ok (.laload, 1) := by decide +kernel
theorem dX5_lays_72 : decode cX5_lays 72 = .ok (.lstore 4, 2) := by decide +kernel
theorem dX5_lays_74 : decode cX5_lays 74 = .ok (.lload 4, 2) := by decide +kernel
theorem dX5_lays_76 : decode cX5_lays 76 = .ok (.lconst 0, 1) := by decide +kernel
theorem dX5_lays_77 : decode cX5_lays 77 = .ok (.lcmp, 1) := by decide +kernel
theorem dX5_lays_78 : decode cX5_lays 78 = .ok (.ifCond .lt 30, 3) := by decide +kernel
theorem dX5_lays_81 : decode cX5_lays 81 = .ok (.lload 4, 2) := by decide +kernel
theorem dX5_lays_83 : decode cX5_lays 83 = .ok (.ldc2_w 226, 3) := by decide +kernel
theorem dX5_lays_86 : decode cX5_lays 86 = .ok (.lcmp, 1) := by decide +kernel
theorem dX5_lays_87 : decode cX5_lays 87 = .ok (.ifCond .gt 21, 3) := by decide +kernel
theorem dX5_lays_90 : decode cX5_lays 90 = .ok (.aload_n 0, 1) := by decide +kernel
theorem dX5_lays_91 : decode cX5_lays 91 = .ok (.getfield 10, 3) := by decide +kernel
theorem dX5_lays_94 : decode cX5_lays 94 = .ok (.getfield 94, 3) := by decide +kernel
theorem dX5_lays_97 : decode cX5_lays 97 = .ok (.iload_n 3, 1) := by decide +kernel
theorem dX5_lays_98 : decode cX5_lays 98 = .ok (.aaload, 1) := by decide +kernel
theorem dX5_lays_99 : decode cX5_lays 99 = .ok (.lload 4, 2) := by decide +kernel
theorem dX5_lays_101 : decode cX5_lays 101 = .ok (.l2i, 1) := by decide +kernel
theorem dX5_lays_102 : decode cX5_lays 102 = .ok (.putfield 128, 3) := by decide +kernel
theorem dX5_lays_105 : decode cX5_lays 105 = .ok (.iinc 2 1, 3) := by decide +kernel
theorem dX5_lays_108 : decode cX5_lays 108 = .ok (.iinc 3 1, 3) := by decide +kernel
theorem dX5_lays_111 : decode cX5_lays 111 = .ok (.goto (-74), 3) := by decide +kernel
theorem dX5_lays_114 : decode cX5_lays 114 = .ok (.iload_n 2, 1) := by decide +kernel
theorem dX5_lays_115 : decode cX5_lays 115 = .ok (.ireturn, 1) := by decide +kernel
theorem dX5_book_0 : decode cX5_book 0 = .ok (.iload_n 1, 1) := by decide +kernel
theorem dX5_book_1 : decode cX5_book 1 = .ok (.invokestatic 191, 3) := by decide +kernel
theorem dX5_book_4 : decode cX5_book 4 = .ok (.ifCond .eq 10, 3) := by decide +kernel
theorem dX5_book_7 : decode cX5_book 7 = .ok (.aload_n 0, 1) := by decide +kernel
theorem dX5_book_8 : decode cX5_book 8 = .ok (.ldc 44, 2) := by decide +kernel
theorem dX5_book_10 : decode cX5_book 10 = .ok (.invokevirtual 45, 3) := by decide +kernel
theorem dX5_book_13 : decode cX5_book 13 = .ok (.ireturn, 1) := by decide +kernel
theorem dX5_book_14 : decode cX5_book 14 = .ok (.aload_n 0, 1) := by decide +kernel
theorem dX5_book_15 : decode cX5_book 15 = .ok (.getfield 31, 3) := by decide +kernel
theorem dX5_book_18 : decode cX5_book 18 = .ok (.iload_n 1, 1) := by decide +kernel
theorem dX5_book_19 : decode cX5_book 19 = .ok (.aaload, 1) := by decide +kernel
theorem dX5_book_20 : decode cX5_book 20 = .ok (.invokevirtual 202, 3) := by decide +kernel
theorem dX5_book_23 : decode cX5_book 23 = .ok (.ifCond .eq 10, 3) := by decide +kernel
theorem dX5_book_26 : decode cX5_book 26 = .ok (.aload_n 0, 1) := by decide +kernel
theorem dX5_book_27 : decode cX5_book 27 = .ok (.ldc 205, 2) := by decide +kernel
theorem dX5_book_29 : decode cX5_book 29 = .ok (.invokevirtual 45, 3) := by decide +kernel
theorem dX5_book_32 : decode cX5_book 32 = .ok (.ireturn, 1) := by decide +kernel
theorem dX5_book_33 : decode cX5_book 33 = .ok (.aload_n 0, 1) := by decide +kernel
theorem dX5_book_34 : decode cX5_book 34 = .ok (.getfield 10, 3) := by decide +kernel
theorem dX5_book_37 : decode cX5_book 37 = .ok (.iload_n 2, 1) := by decide +kernel
theorem dX5_book_38 : decode cX5_book 38 = .ok (.invokevirtual 90, 3) := by decide +kernel
theorem dX5_book_41 : decode cX5_book 41 = .ok (.ifCond .ne 10, 3) := by decide +kernel
theorem dX5_book_44 : decode cX5_book 44 = .ok (.aload_n 0, 1) := by decide +kernel
theorem dX5_book_45 : decode cX5_book 45 = .ok (.ldc 44, 2) := by decide +kernel
theorem dX5_book_47 : decode cX5_book 47 = .ok (.invokevirtual 45, 3) := by decide +kernel
theorem dX5_book_50 : decode cX5_book 50 = .ok (.ireturn, 1) := by decide +kernel
theorem dX5_book_51 : decode cX5_book 51 = .ok (.aload_n 0, 1) := by decide +kernel
theorem dX5_book_52 : decode cX5_book 52 = .ok (.getfield 16, 3) := by decide +kernel
theorem dX5_book_55 : decode cX5_book 55 = .ok (.aload_n 0, 1) := by decide +kernel
theorem dX5_book_56 : decode cX5_book 56 = .ok (.getfield 10, 3) := by decide +kernel
theorem dX5_book_59 : decode cX5_book 59 = .ok (.invokevirtual 141, 3) := by decide +kernel
theorem dX5_book_62 : decode cX5_book 62 = .ok (.iconst 0, 1) := by decide +kernel
theorem dX5_book_63 : decode cX5_book 63 = .ok (.istore_n 3, 1) := by decide +kernel
theorem dX5_book_64 : decode cX5_book 64 = .ok (.iload_n 3, 1) := by decide +kernel
theorem dX5_book_65 : decode cX5_book 65 = .ok (.aload_n 0, 1) := by decide +kernel
theorem dX5_book_66 : decode cX5_book 66 = .ok (.getfield 31, 3) := by decide +kernel
theorem dX5_book_69 : decode cX5_book 69 = .ok (.iload_n 1, 1) := by decide +kernel
theorem dX5_book_70 : decode cX5_book 70 = .ok (.aaload, 1) := by decide +kernel
theorem dX5_book_71 : decode cX5_book 71 = .ok (.getfield 201, 3) := by decide +kernel
theorem dX5_book_74 : decode cX5_book 74 = .ok (.if_icmp .ge 36, 3) := by decide +kernel
theorem dX5_book_77 : decode cX5_book 77 = .ok (.aload_n 0, 1) := by decide +kernel
theorem dX5_book_78 : decode cX5_book 78 = .ok (.getfield 31, 3) := by decide +kernel
theorem dX5_book_81 : decode cX5_book 81 = .ok (.iload_n 1, 1) := by decide +kernel
theorem dX5_book_82 : decode cX5_book 82 = .ok (.aaload, 1) := by decide +kernel
theorem dX5_book_83 : decode cX5_book 83 = .ok (.iload_n 3, 1) := by decide +kernel
theorem dX5_book_84 : decode cX5_book 84 = .ok (.aload_n 0, 1) := by decide +kernel
theorem dX5_book_85 : decode cX5_book 85 = .ok (.getfield 16, 3) := by decide +kernel
theorem dX5_book_88 : decode cX5_book 88 = .ok (.iload_n 2, 1) := by decide +kernel
theorem dX5_book_89 : decode cX5_book 89 = .ok (.invokevirtual 228, 3) := by decide +kernel
theorem dX5_book_92 : decode cX5_book 92 = .ok (.i2l, 1) := by decide +kernel
theorem dX5_book_93 : decode cX5_book 93 = .ok (.invokevirtual 210, 3) := by decide +kernel
theorem dX5_book_96 : decode cX5_book 96 = .ok (.aload_n 0, 1) := by decide +kernel
theorem dX5_book_97 : decode cX5_book 97 = .ok (.getfield 16, 3) := by decide +kernel
theorem dX5_book_100 : decode cX5_book 100 = .ok (.iconst 1, 1) := by decide +kernel
theorem dX5_book_101 : decode cX5_book 101 = .ok (.invokevirtual 134, 3) := by decide +kernel
theorem dX5_book_104 : decode cX5_book 104 = .ok (.iinc 3 1, 3) := by decide +kernel
theorem dX5_book_107 : decode cX5_book 107 = .ok (.goto (-43), 3) := by decide +kernel
theorem dX5_book_110 : decode cX5_book 110 = .ok (.aload_n 0, 1) := by decide +kernel
theorem dX5_book_111 : decode cX5_book 111 = .ok (.getfield 31, 3) := by decide +kernel
theorem dX5_book_114 : decode cX5_book 114 = .ok (.iload_n 1, 1) := by decide +kernel
theorem dX5_book_115 : decode cX5_book 115 = .ok (.aaload, 1) := by decide +kernel
theorem dX5_book_116 : decode cX5_book 116 = .ok (.getfield 201, 3) := by decide +kernel
theorem dX5_book_119 : decode cX5_book 119 = .ok (.ireturn, 1) := by decide +kernel
theorem dX5_read_0 : decode cX5_read 0 = .ok (.iload_n 1, 1) := by decide +kernel
theorem dX5_read_1 : decode cX5_read 1 = .ok (.invokestatic 191, 3) := by decide +kernel
theorem dX5_read_4 : decode cX5_read 4 = .ok (.ifCond .eq 10, 3) := by decide +kernel
theorem dX5_read_7 : decode cX5_read 7 = .ok (.aload_n 0, 1) := by decide +kernel
theorem dX5_read_8 : decode cX5_read 8 = .ok (.ldc 44, 2) := by decide +kernel
theorem dX5_read_10 : decode cX5_read 10 = .ok (.invokevirtual 45, 3) := by decide +kernel
theorem dX5_read_13 : decode cX5_read 13 = .ok (.ireturn, 1) := by decide +kernel
theorem dX5_read_14 : decode cX5_read 14 = .ok (.aload_n 0, 1) := by decide +kernel
theorem dX5_read_15 : decode cX5_read 15 = .ok (.getfield 31, 3) := by decide +kernel
theorem dX5_read_18 : decode cX5_read 18 = .ok (.iload_n 1, 1) := by decide +kernel
theorem dX5_read_19 : decode cX5_read 19 = .ok (.aaload, 1) := by decide +kernel
theorem dX5_read_20 : decode cX5_read 20 = .ok (.invokevirtual 202, 3) := by decide +kernel
theorem dX5_read_23 : decode cX5_read 23 = .ok (.ifCond .eq 10, 3) := by decide +kernel
theorem dX5_read_26 : decode cX5_read 26 = .ok (.aload_n 0, 1) := by decide +kernel
theorem dX5_read_27 : decode cX5_read 27 = .ok (.ldc 205, 2) := by decide +kernel
theorem dX5_read_29 : decode cX5_read 29 = .ok (.invokevirtual 45, 3) := by decide +kernel
theorem dX5_read_32 : decode cX5_read 32 = .ok (.ireturn, 1) := by decide +kernel
theorem dX5_read_33 : decode cX5_read 33 = .ok (.aload_n 0, 1) := by decide +kernel
theorem dX5_read_34 : decode cX5_read 34 = .ok (.getfield 10, 3) := by decide +kernel
theorem dX5_read_37 : decode cX5_read 37 = .ok (.iload_n 2, 1) := by decide +kernel
theorem dX5_read_38 : decode cX5_read 38 = .ok (.invokevirtual 90, 3) := by decide +kernel
theorem dX5_read_41 : decode cX5_read 41 = .ok (.ifCond .ne 10, 3) := by decide +kernel
theorem dX5_read_44 : decode cX5_read 44 = .ok (.aload_n 0, 1) := by decide +kernel
theorem dX5_read_45 : decode cX5_read 45 = .ok (.ldc 44, 2) := by decide +kernel
theorem dX5_read_47 : decode cX5_read 47 = .ok (.invokevirtual 45, 3) := by decide +kernel
theorem dX5_read_50 : decode cX5_read 50 = .ok (.ireturn, 1) := by decide +kernel
theorem dX5_read_51 : decode cX5_read 51 = .ok (.iconst 0, 1) := by decide +kernel
theorem dX5_read_52 : decode cX5_read 52 = .ok (.istore_n 3, 1) := by decide +kernel
theorem dX5_read_53 : decode cX5_read 53 = .ok (.iconst 0, 1) := by decide +kernel
theorem dX5_read_54 : decode cX5_read 54 = .ok (.istore 4, 2) := by decide +kernel
theorem dX5_read_56 : decode cX5_read 56 = .ok (.iload 4, 2) := by decide +kernel
theorem dX5_read_58 : decode cX5_read 58 = .ok (.bipush 6, 2) := by decide +kernel
theorem dX5_read_60 : decode cX5_read 60 = .ok (.if_icmp .ge 82, 3) := by decide +kernel
theorem dX5_read_63 : decode cX5_read 63 = .ok (.iconst 0, 1) := by decide +kernel
theorem dX5_read_64 : decode cX5_read 64 = .ok (.istore 5, 2) := by decide +kernel
theorem dX5_read_66 : decode cX5_read 66 = .ok (.iload 5, 2) := by decide +kernel
theorem dX5_read_68 : decode cX5_read 68 = .ok (.sipush 255, 3) := by decide +kernel
theorem dX5_read_71 : decode cX5_read 71 = .ok (.if_icmp .gt 65, 3) := by decide +kernel
theorem dX5_read_74 : decode cX5_read 74 = .ok (.aload_n 0, 1) := by decide +kernel
theorem dX5_read_75 : decode cX5_read 75 = .ok (.getfield 16, 3) := by decide +kernel
theorem dX5_read_78 : decode cX5_read 78 = .ok (.aload_n 0, 1) := by decide +kernel
theorem dX5_read_79 : decode cX5_read 79 = .ok (.getfield 10, 3) := by decide +kernel
theorem dX5_read_82 : decode cX5_read 82 = .ok (.invokevirtual 141, 3) := by decide +kernel
theorem dX5_read_85 : decode cX5_read 85 = .ok (.aload_n 0, 1) := by decide +kernel
theorem dX5_read_86 : decode cX5_read 86 = .ok (.getfield 16, 3) := by decide +kernel
theorem dX5_read_89 : decode cX5_read 89 = .ok (.getfield 94, 3) := by decide +kernel
theorem dX5_read_92 : decode cX5_read 92 = .ok (.iload_n 2, 1) := by decide +kernel
theorem dX5_read_93 : decode cX5_read 93 = .ok (.aaload, 1) := by decide +kernel
theorem dX5_read_94 : decode cX5_read 94 = .ok (.iload 4, 2) := by decide +kernel
theorem dX5_read_96 : decode cX5_read 96 = .ok (.putfield 122, 3) := by decide +kernel
theorem dX5_read_99 : decode cX5_read 99 = .ok (.aload_n 0, 1) := by decide +kernel
theorem dX5_read_100 : decode cX5_read 100 = .ok (.getfield 16, 3) := by decide +kernel
theorem dX5_read_103 : decode cX5_read 103 = .ok (.getfield 94, 3) := by decide +kernel
theorem dX5_read_106 : decode cX5_read 106 = .ok (.iload_n 2, 1) := by decide +kernel
theorem dX5_read_107 : decode cX5_read 107 = .ok (.aaload, 1) := by decide +kernel
theorem dX5_read_108 : decode cX5_read 108 = .ok (.iload 5, 2) := by decide +kernel
theorem dX5_read_110 : decode cX5_read 110 = .ok (.putfield 128, 3) := by decide +kernel
theorem dX5_read_113 : decode cX5_read 113 = .ok (.aload_n 0, 1) := by decide +kernel
theorem dX5_read_114 : decode cX5_read 114 = .ok (.aload_n 0, 1) := by decide +kernel
theorem dX5_read_115 : decode cX5_read 115 = .ok (.getfield 31, 3) := by decide +kernel
theorem dX5_read_118 : decode cX5_read 118 = .ok (.iload_n 1, 1) := by decide +kernel
theorem dX5_read_119 : decode cX5_read 119 = .ok (.aaload, 1) := by decide +kernel
theorem dX5_read_120 : decode cX5_read 120 = .ok (.iload_n 2, 1) := by decide +kernel
theorem dX5_read_121 : decode cX5_read 121 = .ok (.invokevirtual 231, 3) := by decide +kernel
theorem dX5_read_124 : decode cX5_read 124 = .ok (.ifCond .eq 6, 3) := by decide +kernel
theorem dX5_read_127 : decode cX5_read 127 = .ok (.iinc 3 1, 3) := by decide +kernel
theorem dX5_read_130 : decode cX5_read 130 = .ok (.iinc 5 1, 3) := by decide +kernel
theorem dX5_read_133 : decode cX5_read 133 = .ok (.goto (-67), 3) := by decide +kernel
theorem dX5_read_136 : decode cX5_read 136 = .ok (.iinc 4 1, 3) := by decide +kernel
theorem dX5_read_139 : decode cX5_read 139 = .ok (.goto (-83), 3) := by decide +kernel
theorem dX5_read_142 : decode cX5_read 142 = .ok (.iload_n 3, 1) := by decide +kernel
theorem dX5_read_143 : decode cX5_read 143 = .ok (.ireturn, 1) := by decide +kernel
theorem dX5_image_0 : decode cX5_image 0 = .ok (.aload_n 0, 1) := by decide +kernel
theorem dX5_image_1 : decode cX5_image 1 = .ok (.getfield 19, 3) := by decide +kernel
theorem dX5_image_4 : decode cX5_image 4 = .ok (.aload_n 0, 1) := by decide +kernel
theorem dX5_image_5 : decode cX5_image 5 = .ok (.getfield 10, 3) := by decide +kernel
theorem dX5_image_8 : decode cX5_image 8 = .ok (.invokevirtual 141, 3) := by decide +kernel
theorem dX5_image_11 : decode cX5_image 11 = .ok (.aload_n 0, 1) := by decide +kernel
theorem dX5_image_12 : decode cX5_image 12 = .ok (.iconst 1, 1) := by decide +kernel
theorem dX5_image_13 : decode cX5_image 13 = .ok (.putfield 235, 3) := by decide +kernel
theorem dX5_image_16 : decode cX5_image 16 = .ok (.iconst 1, 1) := by decide +kernel
theorem dX5_image_17 : decode cX5_image 17 = .ok (.ireturn, 1) := by decide +kernel
theorem dX5_undo_0 : decode cX5_undo 0 = .ok (.aload_n 0, 1) := by decide +kernel
theorem dX5_undo_1 : decode cX5_undo 1 = .ok (.getfield 235, 3) := by decide +kernel
theorem dX5_undo_4 : decode cX5_undo 4 = .ok (.ifCond .ne 10, 3) := by decide +kernel
theorem dX5_undo_7 : decode cX5_undo 7 = .ok (.aload_n 0, 1) := by decide +kernel
theorem dX5_undo_8 : decode cX5_undo 8 = .ok (.ldc 148, 2) := by decide +kernel
theorem dX5_undo_10 : decode cX5_undo 10 = .ok (.invokevirtual 45, 3) := by decide +kernel
theorem dX5_undo_13 : decode cX5_undo 13 = .ok (.ireturn, 1) := by decide +kernel
theorem dX5_undo_14 : decode cX5_undo 14 = .ok (.aload_n 0, 1) := by decide +kernel
theorem dX5_undo_15 : decode cX5_undo 15 = .ok (.getfield 10, 3) := by decide +kernel
theorem dX5_undo_18 : decode cX5_undo 18 = .ok (.aload_n 0, 1) := by decide +kernel
theorem dX5_undo_19 : decode cX5_undo 19 = .ok (.getfield 19, 3) := by decide +kernel
theorem dX5_undo_22 : decode cX5_undo 22 = .ok (.invokevirtual 141, 3) := by decide +kernel
theorem dX5_undo_25 : decode cX5_undo 25 = .ok (.aload_n 0, 1) := by decide +kernel
theorem dX5_undo_26 : decode cX5_undo 26 = .ok (.getfield 10, 3) := by decide +kernel
theorem dX5_undo_29 : decode cX5_undo 29 = .ok (.getfield 87, 3) := by decide +kernel
theorem dX5_undo_32 : decode cX5_undo 32 = .ok (.ireturn, 1) := by decide +kernel
theorem dX5_tear_0 : decode cX5_tear 0 = .ok (.aload_n 0, 1) := by decide +kernel
theorem dX5_tear_1 : decode cX5_tear 1 = .ok (.getfield 235, 3) := by decide +kernel
theorem dX5_tear_4 : decode cX5_tear 4 = .ok (.ifCond .eq 7, 3) := by decide +kernel
theorem dX5_tear_7 : decode cX5_tear 7 = .ok (.iconst 1, 1) := by decide +kernel
theorem dX5_tear_8 : decode cX5_tear 8 = .ok (.goto 4, 3) := by decide +kernel
theorem dX5_tear_11 : decode cX5_tear 11 = .ok (.iconst 0, 1) := by decide +kernel
theorem dX5_tear_12 : decode cX5_tear 12 = .ok (.istore_n 1, 1) := by decide +kernel
theorem dX5_tear_13 : decode cX5_tear 13 = .ok (.aload_n 0, 1) := by decide +kernel
theorem dX5_tear_14 : decode cX5_tear 14 = .ok (.iconst 0, 1) := by decide +kernel
theorem dX5_tear_15 : decode cX5_tear 15 = .ok (.putfield 235, 3) := by decide +kernel
theorem dX5_tear_18 : decode cX5_tear 18 = .ok (.iload_n 1, 1) := by decide +kernel
theorem dX5_tear_19 : decode cX5_tear 19 = .ok (.ireturn, 1) := by decide +kernel
theorem dX5_count_0 : decode cX5_count 0 = .ok (.iload_n 1, 1) := by decide +kernel
theorem dX5_count_1 : decode cX5_count 1 = .ok (.tableswitch 68 0 3 #[31, 39, 50, 59], 31) := by decide +kernel
theorem dX5_count_32 : decode cX5_count 32 = .ok (.aload_n 0, 1) := by decide +kernel
theorem dX5_count_33 : decode cX5_count 33 = .ok (.getfield 10, 3) := by decide +kernel
theorem dX5_count_36 : decode cX5_count 36 = .ok (.getfield 87, 3) := by decide +kernel
theorem dX5_count_39 : decode cX5_count 39 = .ok (.ireturn, 1) := by decide +kernel
theorem dX5_count_40 : decode cX5_count 40 = .ok (.aload_n 0, 1) := by decide +kernel
theorem dX5_count_41 : decode cX5_count 41 = .ok (.getfield 25, 3) := by decide +kernel
theorem dX5_count_44 : decode cX5_count 44 = .ok (.getfield 176, 3) := by decide +kernel
theorem dX5_count_47 : decode cX5_count 47 = .ok (.getfield 180, 3) := by decide +kernel
theorem dX5_count_50 : decode cX5_count 50 = .ok (.ireturn, 1) := by decide +kernel
theorem dX5_count_51 : decode cX5_count 51 = .ok (.aload_n 0, 1) := by decide +kernel
theorem dX5_count_52 : decode cX5_count 52 = .ok (.getfield 10, 3) := by decide +kernel
theorem dX5_count_55 : decode cX5_count 55 = .ok (.iconst 2, 1) := by decide +kernel
theorem dX5_count_56 : decode cX5_count 56 = .ok (.invokevirtual 170, 3) := by decide +kernel
theorem dX5_count_59 : decode cX5_count 59 = .ok (.ireturn, 1) := by decide +kernel
theorem dX5_count_60 : decode cX5_count 60 = .ok (.aload_n 0, 1) := by decide +kernel
theorem dX5_count_61 : decode cX5_count 61 = .ok (.getfield 10, 3) := by decide +kernel
theorem dX5_count_64 : decode cX5_count 64 = .ok (.iconst 3, 1) := by decide +kernel
theorem dX5_count_65 : decode cX5_count 65 = .ok (.invokevirtual 170, 3) := by decide +kernel
theorem dX5_count_68 : decode cX5_count 68 = .ok (.ireturn, 1) := by decide +kernel
theorem dX5_count_69 : decode cX5_count 69 = .ok (.aload_n 0, 1) := by decide +kernel
theorem dX5_count_70 : decode cX5_count 70 = .ok (.ldc 44, 2) := by decide +kernel
theorem dX5_count_72 : decode cX5_count 72 = .ok (.invokevirtual 45, 3) := by decide +kernel
theorem dX5_count_75 : decode cX5_count 75 = .ok (.ireturn, 1) := by decide +kernel
theorem dX5_status_0 : decode cX5_status 0 = .ok (.iload_n 1, 1) := by decide +kernel
theorem dX5_status_1 : decode cX5_status 1 = .ok (.iconst (-1), 1) := by decide +kernel
theorem dX5_status_2 : decode cX5_status 2 = .ok (.bipush 6, 2) := by decide +kernel
theorem dX5_status_4 : decode cX5_status 4 = .ok (.invokestatic 40, 3) := by decide +kernel
theorem dX5_status_7 : decode cX5_status 7 = .ok (.ifCond .eq 10, 3) := by decide +kernel
theorem dX5_status_10 : decode cX5_status 10 = .ok (.aload_n 0, 1) := by decide +kernel
theorem dX5_status_11 : decode cX5_status 11 = .ok (.ldc 44, 2) := by decide +kernel
theorem dX5_status_13 : decode cX5_status 13 = .ok (.invokevirtual 45, 3) := by decide +kernel
theorem dX5_status_16 : decode cX5_status 16 = .ok (.ireturn, 1) := by decide +kernel
theorem dX5_status_17 : decode cX5_status 17 = .ok (.iload_n 1, 1) := by decide +kernel
theorem dX5_status_18 : decode cX5_status 18 = .ok (.ifCond .lt 10, 3) := by decide +kernel
theorem dX5_status_21 : decode cX5_status 21 = .ok (.aload_n 0, 1) := by decide +kernel
theorem dX5_status_22 : decode cX5_status 22 = .ok (.getfield 35, 3) := by decide +kernel
theorem dX5_status_25 : decode cX5_status 25 = .ok (.iload_n 1, 1) := by decide +kernel
theorem dX5_status_26 : decode cX5_status 26 = .ok (.iaload, 1) := by decide +kernel
theorem dX5_status_27 : decode cX5_status 27 = .ok (.ireturn, 1) := by decide +kernel
theorem dX5_status_28 : decode cX5_status 28 = .ok (.iconst 0, 1) := by decide +kernel
theorem dX5_status_29 : decode cX5_status 29 = .ok (.istore_n 2, 1) := by decide +kernel
theorem dX5_status_30 : decode cX5_status 30 = .ok (.iconst 0, 1) := by decide +kernel
theorem dX5_status_31 : decode cX5_status 31 = .ok (.istore_n 3, 1) := by decide +kernel
theorem dX5_status_32 : decode cX5_status 32 = .ok (.iload_n 3, 1) := by decide +kernel
theorem dX5_status_33 : decode cX5_status 33 = .ok (.bipush 7, 2) := by decide +kernel
theorem dX5_status_35 : decode cX5_status 35 = .ok (.if_icmp .ge 18, 3) := by decide +kernel
theorem dX5_status_38 : decode cX5_status 38 = .ok (.iload_n 2, 1) := by decide +kernel
theorem dX5_status_39 : decode cX5_status 39 = .ok (.aload_n 0, 1) := by decide +kernel
theorem dX5_status_40 : decode cX5_status 40 = .ok (.getfield 35, 3) := by decide +kernel
theorem dX5_status_43 : decode cX5_status 43 = .ok (.iload_n 3, 1) := by decide +kernel
theorem dX5_status_44 : decode cX5_status 44 = .ok (.iaload, 1) := by decide +kernel
theorem dX5_status_45 : decode cX5_status 45 = .ok (.iadd, 1) := by decide +kernel
theorem dX5_status_46 : decode cX5_status 46 = .ok (.istore_n 2, 1) := by decide +kernel
theorem dX5_status_47 : decode cX5_status 47 = .ok (.iinc 3 1, 3) := by decide +kernel
theorem dX5_status_50 : decode cX5_status 50 = .ok (.goto (-18), 3) := by decide +kernel
theorem dX5_status_53 : decode cX5_status 53 = .ok (.iload_n 2, 1) := by decide +kernel
theorem dX5_status_54 : decode cX5_status 54 = .ok (.ireturn, 1) := by decide +kernel
theorem dX5_outside_0 : decode cX5_outside 0 = .ok (.iload_n 0, 1) := by decide +kernel
theorem dX5_outside_1 : decode cX5_outside 1 = .ok (.iload_n 1, 1) := by decide +kernel
theorem dX5_outside_2 : decode cX5_outside 2 = .ok (.if_icmp .lt 8, 3) := by decide +kernel
theorem dX5_outside_5 : decode cX5_outside 5 = .ok (.iload_n 0, 1) := by decide +kernel
theorem dX5_outside_6 : decode cX5_outside 6 = .ok (.iload_n 2, 1) := by decide +kernel
theorem dX5_outside_7 : decode cX5_outside 7 = .ok (.if_icmp .le 7, 3) := by decide +kernel
theorem dX5_outside_10 : decode cX5_outside 10 = .ok (.iconst 1, 1) := by decide +kernel
theorem dX5_outside_11 : decode cX5_outside 11 = .ok (.goto 4, 3) := by decide +kernel
theorem dX5_outside_14 : decode cX5_outside 14 = .ok (.iconst 0, 1) := by decide +kernel
theorem dX5_outside_15 : decode cX5_outside 15 = .ok (.ireturn, 1) := by decide +kernel
theorem dX5_bit_0 : decode cX5_bit 0 = .ok (.iload_n 0, 1) := by decide +kernel
theorem dX5_bit_1 : decode cX5_bit 1 = .ok (.iload_n 1, 1) := by decide +kernel
theorem dX5_bit_2 : decode cX5_bit 2 = .ok (.ishr, 1) := by decide +kernel
theorem dX5_bit_3 : decode cX5_bit 3 = .ok (.iconst 1, 1) := by decide +kernel
theorem dX5_bit_4 : decode cX5_bit 4 = .ok (.iand, 1) := by decide +kernel
theorem dX5_bit_5 : decode cX5_bit 5 = .ok (.ireturn, 1) := by decide +kernel
theorem dX5_noSheet_0 : decode cX5_noSheet 0 = .ok (.iload_n 0, 1) := by decide +kernel
theorem dX5_noSheet_1 : decode cX5_noSheet 1 = .ok (.iconst 0, 1) := by decide +kernel
theorem dX5_noSheet_2 : decode cX5_noSheet 2 = .ok (.iconst 3, 1) := by decide +kernel
theorem dX5_noSheet_3 : decode cX5_noSheet 3 = .ok (.invokestatic 40, 3) := by decide +kernel
theorem dX5_noSheet_6 : decode cX5_noSheet 6 = .ok (.ireturn, 1) := by decide +kernel
theorem dX5_finding_0 : decode cX5_finding 0 = .ok (.ldc 44, 2) := by decide +kernel
theorem dX5_finding_2 : decode cX5_finding 2 = .ok (.iload_n 1, 1) := by decide +kernel
theorem dX5_finding_3 : decode cX5_finding 3 = .ok (.isub, 1) := by decide +kernel
theorem dX5_finding_4 : decode cX5_finding 4 = .ok (.istore_n 2, 1) := by decide +kernel
theorem dX5_finding_5 : decode cX5_finding 5 = .ok (.iload_n 2, 1) := by decide +kernel
theorem dX5_finding_6 : decode cX5_finding 6 = .ok (.iconst 0, 1) := by decide +kernel
theorem dX5_finding_7 : decode cX5_finding 7 = .ok (.bipush 6, 2) := by decide +kernel
theorem dX5_finding_9 : decode cX5_finding 9 = .ok (.invokestatic 40, 3) := by decide +kernel
theorem dX5_finding_12 : decode cX5_finding 12 = .ok (.ifCond .ne 13, 3) := by decide +kernel
theorem dX5_finding_15 : decode cX5_finding 15 = .ok (.aload_n 0, 1) := by decide +kernel
theorem dX5_finding_16 : decode cX5_finding 16 = .ok (.getfield 35, 3) := by decide +kernel
theorem dX5_finding_19 : decode cX5_finding 19 = .ok (.iload_n 2, 1) := by decide +kernel
theorem dX5_finding_20 : decode cX5_finding 20 = .ok (.dup2, 1) := by decide +kernel
theorem dX5_finding_21 : decode cX5_finding 21 = .ok (.iaload, 1) := by decide +kernel
theorem dX5_finding_22 : decode cX5_finding 22 = .ok (.iconst 1, 1) := by decide +kernel
theorem dX5_finding_23 : decode cX5_finding 23 = .ok (.iadd, 1) := by decide +kernel
theorem dX5_finding_24 : decode cX5_finding 24 = .ok (.iastore, 1) := by decide +kernel
theorem dX5_finding_25 : decode cX5_finding 25 = .ok (.iload_n 1, 1) := by decide +kernel
theorem dX5_finding_26 : decode cX5_finding 26 = .ok (.ireturn, 1) := by decide +kernel
theorem dX5_lookAhead_0 : decode cX5_lookAhead 0 = .ok (.aload_n 0, 1) := by decide +kernel
theorem dX5_lookAhead_1 : decode cX5_lookAhead 1 = .ok (.getfield 16, 3) := by decide +kernel
theorem dX5_lookAhead_4 : decode cX5_lookAhead 4 = .ok (.aload_n 0, 1) := by decide +kernel
theorem dX5_lookAhead_5 : decode cX5_lookAhead 5 = .ok (.getfield 10, 3) := by decide +kernel
theorem dX5_lookAhead_8 : decode cX5_lookAhead 8 = .ok (.invokevirtual 141, 3) := by decide +kernel
theorem dX5_lookAhead_11 : decode cX5_lookAhead 11 = .ok (.aload_n 0, 1) := by decide +kernel
theorem dX5_lookAhead_12 : decode cX5_lookAhead 12 = .ok (.getfield 16, 3) := by decide +kernel
theorem dX5_lookAhead_15 : decode cX5_lookAhead 15 = .ok (.iload_n 1, 1) := by decide +kernel
theorem dX5_lookAhead_16 : decode cX5_lookAhead 16 = .ok (.invokevirtual 134, 3) := by decide +kernel
theorem dX5_lookAhead_19 : decode cX5_lookAhead 19 = .ok (.return_, 1) := by decide +kernel
theorem dX5_saysJustSo_0 : decode cX5_saysJustSo 0 = .ok (.iconst 0, 1) := by decide +kernel
theorem dX5_saysJustSo_1 : decode cX5_saysJustSo 1 = .ok (.istore_n 3, 1) := by decide +kernel
theorem dX5_saysJustSo_2 : decode cX5_saysJustSo 2 = .ok (.iload_n 3, 1) := by decide +kernel
theorem dX5_saysJustSo_3 : decode cX5_saysJustSo 3 = .ok (.aload_n 1, 1) := by decide +kernel
theorem dX5_saysJustSo_4 : decode cX5_saysJustSo 4 = .ok (.getfield 201, 3) := by decide +kernel
theorem dX5_saysJustSo_7 : decode cX5_saysJustSo 7 = .ok (.if_icmp .ge 38, 3) := by decide +kernel
theorem dX5_saysJustSo_10 : decode cX5_saysJustSo 10 = .ok (.aload_n 0, 1) := by decide +kernel
theorem dX5_saysJustSo_11 : decode cX5_saysJustSo 11 = .ok (.getfield 16, 3) := by decide +kernel
theorem dX5_saysJustSo_14 : decode cX5_saysJustSo 14 = .ok (.iload_n 2, 1) := by decide +kernel
theorem dX5_saysJustSo_15 : decode cX5_saysJustSo 15 = .ok (.invokevirtual 228, 3) := by decide +kernel
theorem dX5_saysJustSo_18 : decode cX5_saysJustSo 18 = .ok (.i2l, 1) := by decide +kernel
theorem dX5_saysJustSo_19 : decode cX5_saysJustSo 19 = .ok (.aload_n 1, 1) := by decide +kernel
theorem dX5_saysJustSo_20 : decode cX5_saysJustSo 20 = .ok (.getfield 206, 3) := by decide +kernel
theorem dX5_saysJustSo_23 : decode cX5_saysJustSo 23 = .ok (.iload_n 3, 1) := by decide +kernel
theorem dX5_saysJustSo_24 : decode cX5_saysJustSo 24 = .ok (.laload, 1) := by decide +kernel
theorem dX5_saysJustSo_25 : decode cX5_saysJustSo 25 = .ok (.lcmp, 1) := by decide +kernel
theorem dX5_saysJustSo_26 : decode cX5_saysJustSo 26 = .ok (.ifCond .eq 5, 3) := by decide +kernel
theorem dX5_saysJustSo_29 : decode cX5_saysJustSo 29 = .ok (.iconst 0, 1) := by decide +kernel
theorem dX5_saysJustSo_30 : decode cX5_saysJustSo 30 = .ok (.ireturn, 1) := by decide +kernel
theorem dX5_saysJustSo_31 : decode cX5_saysJustSo 31 = .ok (.aload_n 0, 1) := by decide +kernel
theorem dX5_saysJustSo_32 : decode cX5_saysJustSo 32 = .ok (.getfield 16, 3) := by decide +kernel
theorem dX5_saysJustSo_35 : decode cX5_saysJustSo 35 = .ok (.iconst 1, 1) := by decide +kernel
theorem dX5_saysJustSo_36 : decode cX5_saysJustSo 36 = .ok (.invokevirtual 134, 3) := by decide +kernel
theorem dX5_saysJustSo_39 : decode cX5_saysJustSo 39 = .ok (.iinc 3 1, 3) := by decide +kernel
theorem dX5_saysJustSo_42 : decode cX5_saysJustSo 42 = .ok (.goto (-40), 3) := by decide +kernel
theorem dX5_saysJustSo_45 : decode cX5_saysJustSo 45 = .ok (.iconst 1, 1) := by decide +kernel
theorem dX5_saysJustSo_46 : decode cX5_saysJustSo 46 = .ok (.ireturn, 1) := by decide +kernel
theorem dJ6_bitCount_0f7a4_0 : decode cJ6_bitCount_0f7a4 0 = .ok (.iload_n 0, 1) := by decide +kernel
theorem dJ6_bitCount_0f7a4_1 : decode cJ6_bitCount_0f7a4 1 = .ok (.iload_n 0, 1) := by decide +kernel
theorem dJ6_bitCount_0f7a4_2 : decode cJ6_bitCount_0f7a4 2 = .ok (.iconst 1, 1) := by decide +kernel
theorem dJ6_bitCount_0f7a4_3 : decode cJ6_bitCount_0f7a4 3 = .ok (.iushr, 1) := by decide +kernel
theorem dJ6_bitCount_0f7a4_4 : decode cJ6_bitCount_0f7a4 4 = .ok (.ldc_w 265, 3) := by decide +kernel
theorem dJ6_bitCount_0f7a4_7 : decode cJ6_bitCount_0f7a4 7 = .ok (.iand, 1) := by decide +kernel
theorem dJ6_bitCount_0f7a4_8 : decode cJ6_bitCount_0f7a4 8 = .ok (.isub, 1) := by decide +kernel
theorem dJ6_bitCount_0f7a4_9 : decode cJ6_bitCount_0f7a4 9 = .ok (.istore_n 0, 1) := by decide +kernel
theorem dJ6_bitCount_0f7a4_10 : decode cJ6_bitCount_0f7a4 10 = .ok (.iload_n 0, 1) := by decide +kernel
theorem dJ6_bitCount_0f7a4_11 : decode cJ6_bitCount_0f7a4 11 = .ok (.ldc_w 266, 3) := by decide +kernel
theorem dJ6_bitCount_0f7a4_14 : decode cJ6_bitCount_0f7a4 14 = .ok (.iand, 1) := by decide +kernel
theorem dJ6_bitCount_0f7a4_15 : decode cJ6_bitCount_0f7a4 15 = .ok (.iload_n 0, 1) := by decide +kernel
theorem dJ6_bitCount_0f7a4_16 : decode cJ6_bitCount_0f7a4 16 = .ok (.iconst 2, 1) := by decide +kernel
theorem dJ6_bitCount_0f7a4_17 : decode cJ6_bitCount_0f7a4 17 = .ok (.iushr, 1) := by decide +kernel
theorem dJ6_bitCount_0f7a4_18 : decode cJ6_bitCount_0f7a4 18 = .ok (.ldc_w 266, 3) := by decide +kernel
theorem dJ6_bitCount_0f7a4_21 : decode cJ6_bitCount_0f7a4 21 = .ok (.iand, 1) := by decide +kernel
theorem dJ6_bitCount_0f7a4_22 : decode cJ6_bitCount_0f7a4 22 = .ok (.iadd, 1) := by decide +kernel
theorem dJ6_bitCount_0f7a4_23 : decode cJ6_bitCount_0f7a4 23 = .ok (.istore_n 0, 1) := by decide +kernel
theorem dJ6_bitCount_0f7a4_24 : decode cJ6_bitCount_0f7a4 24 = .ok (.iload_n 0, 1) := by decide +kernel
theorem dJ6_bitCount_0f7a4_25 : decode cJ6_bitCount_0f7a4 25 = .ok (.iload_n 0, 1) := by decide +kernel
theorem dJ6_bitCount_0f7a4_26 : decode cJ6_bitCount_0f7a4 26 = .ok (.iconst 4, 1) := by decide +kernel
theorem dJ6_bitCount_0f7a4_27 : decode cJ6_bitCount_0f7a4 27 = .ok (.iushr, 1) := by decide +kernel
theorem dJ6_bitCount_0f7a4_28 : decode cJ6_bitCount_0f7a4 28 = .ok (.iadd, 1) := by decide +kernel
theorem dJ6_bitCount_0f7a4_29 : decode cJ6_bitCount_0f7a4 29 = .ok (.ldc_w 267, 3) := by decide +kernel
theorem dJ6_bitCount_0f7a4_32 : decode cJ6_bitCount_0f7a4 32 = .ok (.iand, 1) := by decide +kernel
theorem dJ6_bitCount_0f7a4_33 : decode cJ6_bitCount_0f7a4 33 = .ok (.istore_n 0, 1) := by decide +kernel
theorem dJ6_bitCount_0f7a4_34 : decode cJ6_bitCount_0f7a4 34 = .ok (.iload_n 0, 1) := by decide +kernel
theorem dJ6_bitCount_0f7a4_35 : decode cJ6_bitCount_0f7a4 35 = .ok (.iload_n 0, 1) := by decide +kernel
theorem dJ6_bitCount_0f7a4_36 : decode cJ6_bitCount_0f7a4 36 = .ok (.bipush 8, 2) := by decide +kernel
theorem dJ6_bitCount_0f7a4_38 : decode cJ6_bitCount_0f7a4 38 = .ok (.iushr, 1) := by decide +kernel
theorem dJ6_bitCount_0f7a4_39 : decode cJ6_bitCount_0f7a4 39 = .ok (.iadd, 1) := by decide +kernel
theorem dJ6_bitCount_0f7a4_40 : decode cJ6_bitCount_0f7a4 40 = .ok (.istore_n 0, 1) := by decide +kernel
theorem dJ6_bitCount_0f7a4_41 : decode cJ6_bitCount_0f7a4 41 = .ok (.iload_n 0, 1) := by decide +kernel
theorem dJ6_bitCount_0f7a4_42 : decode cJ6_bitCount_0f7a4 42 = .ok (.iload_n 0, 1) := by decide +kernel
theorem dJ6_bitCount_0f7a4_43 : decode cJ6_bitCount_0f7a4 43 = .ok (.bipush 16, 2) := by decide +kernel
theorem dJ6_bitCount_0f7a4_45 : decode cJ6_bitCount_0f7a4 45 = .ok (.iushr, 1) := by decide +kernel
theorem dJ6_bitCount_0f7a4_46 : decode cJ6_bitCount_0f7a4 46 = .ok (.iadd, 1) := by decide +kernel
theorem dJ6_bitCount_0f7a4_47 : decode cJ6_bitCount_0f7a4 47 = .ok (.istore_n 0, 1) := by decide +kernel
theorem dJ6_bitCount_0f7a4_48 : decode cJ6_bitCount_0f7a4 48 = .ok (.iload_n 0, 1) := by decide +kernel
theorem dJ6_bitCount_0f7a4_49 : decode cJ6_bitCount_0f7a4 49 = .ok (.bipush 63, 2) := by decide +kernel
theorem dJ6_bitCount_0f7a4_51 : decode cJ6_bitCount_0f7a4 51 = .ok (.iand, 1) := by decide +kernel
theorem dJ6_bitCount_0f7a4_52 : decode cJ6_bitCount_0f7a4 52 = .ok (.ireturn, 1) := by decide +kernel
theorem dJ9_max_7cf53_0 : decode cJ9_max_7cf53 0 = .ok (.iload_n 0, 1) := by decide +kernel
theorem dJ9_max_7cf53_1 : decode cJ9_max_7cf53 1 = .ok (.iload_n 1, 1) := by decide +kernel
theorem dJ9_max_7cf53_2 : decode cJ9_max_7cf53 2 = .ok (.if_icmp .lt 7, 3) := by decide +kernel
theorem dJ9_max_7cf53_5 : decode cJ9_max_7cf53 5 = .ok (.iload_n 0, 1) := by decide +kernel
theorem dJ9_max_7cf53_6 : decode cJ9_max_7cf53 6 = .ok (.goto 4, 3) := by decide +kernel
theorem dJ9_max_7cf53_9 : decode cJ9_max_7cf53 9 = .ok (.iload_n 1, 1) := by decide +kernel
theorem dJ9_max_7cf53_10 : decode cJ9_max_7cf53 10 = .ok (.ireturn, 1) := by decide +kernel
theorem dJ9_min_7cf53_0 : decode cJ9_min_7cf53 0 = .ok (.iload_n 0, 1) := by decide +kernel
theorem dJ9_min_7cf53_1 : decode cJ9_min_7cf53 1 = .ok (.iload_n 1, 1) := by decide +kernel
theorem dJ9_min_7cf53_2 : decode cJ9_min_7cf53 2 = .ok (.if_icmp .gt 7, 3) := by decide +kernel
theorem dJ9_min_7cf53_5 : decode cJ9_min_7cf53 5 = .ok (.iload_n 0, 1) := by decide +kernel
theorem dJ9_min_7cf53_6 : decode cJ9_min_7cf53 6 = .ok (.goto 4, 3) := by decide +kernel
theorem dJ9_min_7cf53_9 : decode cJ9_min_7cf53 9 = .ok (.iload_n 1, 1) := by decide +kernel
theorem dJ9_min_7cf53_10 : decode cJ9_min_7cf53 10 = .ok (.ireturn, 1) := by decide +kernel
theorem dJ0_length_8abf5_0 : decode cJ0_length_8abf5 0 = .ok (.aload_n 0, 1) := by decide +kernel
theorem dJ0_length_8abf5_1 : decode cJ0_length_8abf5 1 = .ok (.getfield 9, 3) := by decide +kernel
theorem dJ0_length_8abf5_4 : decode cJ0_length_8abf5 4 = .ok (.arraylength, 1) := by decide +kernel
theorem dJ0_length_8abf5_5 : decode cJ0_length_8abf5 5 = .ok (.aload_n 0, 1) := by decide +kernel
theorem dJ0_length_8abf5_6 : decode cJ0_length_8abf5 6 = .ok (.invokevirtual 335, 3) := by decide +kernel
theorem dJ0_length_8abf5_9 : decode cJ0_length_8abf5 9 = .ok (.ishr, 1) := by decide +kernel
theorem dJ0_length_8abf5_10 : decode cJ0_length_8abf5 10 = .ok (.ireturn, 1) := by decide +kernel
theorem dJ0_charAt_5068e_0 : decode cJ0_charAt_5068e 0 = .ok (.aload_n 0, 1) := by decide +kernel
theorem dJ0_charAt_5068e_1 : decode cJ0_charAt_5068e 1 = .ok (.invokevirtual 492, 3) := by decide +kernel
theorem dJ0_charAt_5068e_4 : decode cJ0_charAt_5068e 4 = .ok (.ifCond .eq 12, 3) := by decide +kernel
theorem dJ0_charAt_5068e_7 : decode cJ0_charAt_5068e 7 = .ok (.aload_n 0, 1) := by decide +kernel
theorem dJ0_charAt_5068e_8 : decode cJ0_charAt_5068e 8 = .ok (.getfield 9, 3) := by decide +kernel
theorem dJ0_charAt_5068e_11 : decode cJ0_charAt_5068e 11 = .ok (.iload_n 1, 1) := by decide +kernel
theorem dJ0_charAt_5068e_12 : decode cJ0_charAt_5068e 12 = .ok (.invokestatic 495, 3) := by decide +kernel
theorem dJ0_charAt_5068e_15 : decode cJ0_charAt_5068e 15 = .ok (.ireturn, 1) := by decide +kernel
theorem dJ0_charAt_5068e_16 : decode cJ0_charAt_5068e 16 = .ok (.aload_n 0, 1) := by decide +kernel
theorem dJ0_charAt_5068e_17 : decode cJ0_charAt_5068e 17 = .ok (.getfield 9, 3) := by decide +kernel
theorem dJ0_charAt_5068e_20 : decode cJ0_charAt_5068e 20 = .ok (.iload_n 1, 1) := by decide +kernel
theorem dJ0_charAt_5068e_21 : decode cJ0_charAt_5068e 21 = .ok (.invokestatic 498, 3) := by decide +kernel
theorem dJ0_charAt_5068e_24 : decode cJ0_charAt_5068e 24 = .ok (.ireturn, 1) := by decide +kernel
theorem dJ0_coder_7d493_0 : decode cJ0_coder_7d493 0 = .ok (.getstatic 38, 3) := by decide +kernel
theorem dJ0_coder_7d493_3 : decode cJ0_coder_7d493 3 = .ok (.ifCond .eq 10, 3) := by decide +kernel
theorem dJ0_coder_7d493_6 : decode cJ0_coder_7d493 6 = .ok (.aload_n 0, 1) := by decide +kernel
theorem dJ0_coder_7d493_7 : decode cJ0_coder_7d493 7 = .ok (.getfield 15, 3) := by decide +kernel
theorem dJ0_coder_7d493_10 : decode cJ0_coder_7d493 10 = .ok (.goto 4, 3) := by decide +kernel
theorem dJ0_coder_7d493_13 : decode cJ0_coder_7d493 13 = .ok (.iconst 1, 1) := by decide +kernel
theorem dJ0_coder_7d493_14 : decode cJ0_coder_7d493 14 = .ok (.ireturn, 1) := by decide +kernel
theorem dJ0_isLatin1_aae02_0 : decode cJ0_isLatin1_aae02 0 = .ok (.getstatic 38, 3) := by decide +kernel
theorem dJ0_isLatin1_aae02_3 : decode cJ0_isLatin1_aae02 3 = .ok (.ifCond .eq 14, 3) := by decide +kernel
theorem dJ0_isLatin1_aae02_6 : decode cJ0_isLatin1_aae02 6 = .ok (.aload_n 0, 1) := by decide +kernel
theorem dJ0_isLatin1_aae02_7 : decode cJ0_isLatin1_aae02 7 = .ok (.getfield 15, 3) := by decide +kernel
theorem dJ0_isLatin1_aae02_10 : decode cJ0_isLatin1_aae02 10 = .ok (.ifCond .ne 7, 3) := by decide +kernel
theorem dJ0_isLatin1_aae02_13 : decode cJ0_isLatin1_aae02 13 = .ok (.iconst 1, 1) := by decide +kernel
theorem dJ0_isLatin1_aae02_14 : decode cJ0_isLatin1_aae02 14 = .ok (.goto 4, 3) := by decide +kernel
theorem dJ0_isLatin1_aae02_17 : decode cJ0_isLatin1_aae02 17 = .ok (.iconst 0, 1) := by decide +kernel
theorem dJ0_isLatin1_aae02_18 : decode cJ0_isLatin1_aae02 18 = .ok (.ireturn, 1) := by decide +kernel
theorem dJ0_checkIndex_df160_0 : decode cJ0_checkIndex_df160 0 = .ok (.iload_n 0, 1) := by decide +kernel
theorem dJ0_checkIndex_df160_1 : decode cJ0_checkIndex_df160 1 = .ok (.iload_n 1, 1) := by decide +kernel
theorem dJ0_checkIndex_df160_2 : decode cJ0_checkIndex_df160 2 = .ok (.getstatic 1053, 3) := by decide +kernel
theorem dJ0_checkIndex_df160_5 : decode cJ0_checkIndex_df160 5 = .ok (.invokestatic 1059, 3) := by decide +kernel
theorem dJ0_checkIndex_df160_8 : decode cJ0_checkIndex_df160 8 = .ok (.pop, 1) := by decide +kernel
theorem dJ0_checkIndex_df160_9 : decode cJ0_checkIndex_df160 9 = .ok (.return_, 1) := by decide +kernel
theorem dJ1_charAt_3b067_0 : decode cJ1_charAt_3b067 0 = .ok (.iload_n 1, 1) := by decide +kernel
theorem dJ1_charAt_3b067_1 : decode cJ1_charAt_3b067 1 = .ok (.aload_n 0, 1) := by decide +kernel
theorem dJ1_charAt_3b067_2 : decode cJ1_charAt_3b067 2 = .ok (.arraylength, 1) := by decide +kernel
theorem dJ1_charAt_3b067_3 : decode cJ1_charAt_3b067 3 = .ok (.invokestatic 9, 3) := by decide +kernel
theorem dJ1_charAt_3b067_6 : decode cJ1_charAt_3b067 6 = .ok (.aload_n 0, 1) := by decide +kernel
theorem dJ1_charAt_3b067_7 : decode cJ1_charAt_3b067 7 = .ok (.iload_n 1, 1) := by decide +kernel
theorem dJ1_charAt_3b067_8 : decode cJ1_charAt_3b067 8 = .ok (.baload, 1) := by decide +kernel
theorem dJ1_charAt_3b067_9 : decode cJ1_charAt_3b067 9 = .ok (.sipush 255, 3) := by decide +kernel
theorem dJ1_charAt_3b067_12 : decode cJ1_charAt_3b067 12 = .ok (.iand, 1) := by decide +kernel
theorem dJ1_charAt_3b067_13 : decode cJ1_charAt_3b067 13 = .ok (.i2c, 1) := by decide +kernel
theorem dJ1_charAt_3b067_14 : decode cJ1_charAt_3b067 14 = .ok (.ireturn, 1) := by decide +kernel
theorem dJ2_getChar_3b067_0 : decode cJ2_getChar_3b067 0 = .ok (.getstatic 44, 3) := by decide +kernel
theorem dJ2_getChar_3b067_3 : decode cJ2_getChar_3b067 3 = .ok (.ifCond .ne 25, 3) := by decide +kernel
theorem dJ2_getChar_3b067_6 : decode cJ2_getChar_3b067 6 = .ok (.iload_n 1, 1) := by decide +kernel
theorem dJ2_getChar_3b067_7 : decode cJ2_getChar_3b067 7 = .ok (.ifCond .lt 11, 3) := by decide +kernel
theorem dJ2_getChar_3b067_10 : decode cJ2_getChar_3b067 10 = .ok (.iload_n 1, 1) := by decide +kernel
theorem dJ2_getChar_3b067_11 : decode cJ2_getChar_3b067 11 = .ok (.aload_n 0, 1) := by decide +kernel
theorem dJ2_getChar_3b067_12 : decode cJ2_getChar_3b067 12 = .ok (.invokestatic 48, 3) := by decide +kernel
theorem dJ2_getChar_3b067_15 : decode cJ2_getChar_3b067 15 = .ok (.if_icmp .lt 13, 3) := by decide +kernel
theorem dJ2_getChar_3b067_18 : decode cJ2_getChar_3b067 18 = .ok (.new 52, 3) := by decide +kernel
theorem dJ2_getChar_3b067_21 : decode cJ2_getChar_3b067 21 = .ok (.dup, 1) := by decide +kernel
theorem dJ2_getChar_3b067_22 : decode cJ2_getChar_3b067 22 = .ok (.ldc 54, 2) := by decide +kernel
theorem dJ2_getChar_3b067_24 : decode cJ2_getChar_3b067 24 = .ok (.invokespecial 56, 3) := by decide +kernel
theorem dJ2_getChar_3b067_27 : decode cJ2_getChar_3b067 27 = .ok (.athrow, 1) := by decide +kernel
theorem dJ2_getChar_3b067_28 : decode cJ2_getChar_3b067 28 = .ok (.iload_n 1, 1) := by decide +kernel
theorem dJ2_getChar_3b067_29 : decode cJ2_getChar_3b067 29 = .ok (.iconst 1, 1) := by decide +kernel
theorem dJ2_getChar_3b067_30 : decode cJ2_getChar_3b067 30 = .ok (.ishl, 1) := by decide +kernel
theorem dJ2_getChar_3b067_31 : decode cJ2_getChar_3b067 31 = .ok (.istore_n 1, 1) := by decide +kernel
theorem dJ2_getChar_3b067_32 : decode cJ2_getChar_3b067 32 = .ok (.aload_n 0, 1) := by decide +kernel
theorem dJ2_getChar_3b067_33 : decode cJ2_getChar_3b067 33 = .ok (.iload_n 1, 1) := by decide +kernel
theorem dJ2_getChar_3b067_34 : decode cJ2_getChar_3b067 34 = .ok (.iinc 1 1, 3) := by decide +kernel
theorem dJ2_getChar_3b067_37 : decode cJ2_getChar_3b067 37 = .ok (.baload, 1) := by decide +kernel
theorem dJ2_getChar_3b067_38 : decode cJ2_getChar_3b067 38 = .ok (.sipush 255, 3) := by decide +kernel
theorem dJ2_getChar_3b067_41 : decode cJ2_getChar_3b067 41 = .ok (.iand, 1) := by decide +kernel
theorem dJ2_getChar_3b067_42 : decode cJ2_getChar_3b067 42 = .ok (.getstatic 59, 3) := by decide +kernel
theorem dJ2_getChar_3b067_45 : decode cJ2_getChar_3b067 45 = .ok (.ishl, 1) := by decide +kernel
theorem dJ2_getChar_3b067_46 : decode cJ2_getChar_3b067 46 = .ok (.aload_n 0, 1) := by decide +kernel
theorem dJ2_getChar_3b067_47 : decode cJ2_getChar_3b067 47 = .ok (.iload_n 1, 1) := by decide +kernel
theorem dJ2_getChar_3b067_48 : decode cJ2_getChar_3b067 48 = .ok (.baload, 1) := by decide +kernel
theorem dJ2_getChar_3b067_49 : decode cJ2_getChar_3b067 49 = .ok (.sipush 255, 3) := by decide +kernel
theorem dJ2_getChar_3b067_52 : decode cJ2_getChar_3b067 52 = .ok (.iand, 1) := by decide +kernel
theorem dJ2_getChar_3b067_53 : decode cJ2_getChar_3b067 53 = .ok (.getstatic 63, 3) := by decide +kernel
theorem dJ2_getChar_3b067_56 : decode cJ2_getChar_3b067 56 = .ok (.ishl, 1) := by decide +kernel
theorem dJ2_getChar_3b067_57 : decode cJ2_getChar_3b067 57 = .ok (.ior, 1) := by decide +kernel
theorem dJ2_getChar_3b067_58 : decode cJ2_getChar_3b067 58 = .ok (.i2c, 1) := by decide +kernel
theorem dJ2_getChar_3b067_59 : decode cJ2_getChar_3b067 59 = .ok (.ireturn, 1) := by decide +kernel
theorem dJ2_length_9d52b_0 : decode cJ2_length_9d52b 0 = .ok (.aload_n 0, 1) := by decide +kernel
theorem dJ2_length_9d52b_1 : decode cJ2_length_9d52b 1 = .ok (.arraylength, 1) := by decide +kernel
theorem dJ2_length_9d52b_2 : decode cJ2_length_9d52b 2 = .ok (.iconst 1, 1) := by decide +kernel
theorem dJ2_length_9d52b_3 : decode cJ2_length_9d52b 3 = .ok (.ishr, 1) := by decide +kernel
theorem dJ2_length_9d52b_4 : decode cJ2_length_9d52b 4 = .ok (.ireturn, 1) := by decide +kernel
theorem dJ2_charAt_3b067_0 : decode cJ2_charAt_3b067 0 = .ok (.iload_n 1, 1) := by decide +kernel
theorem dJ2_charAt_3b067_1 : decode cJ2_charAt_3b067 1 = .ok (.aload_n 0, 1) := by decide +kernel
theorem dJ2_charAt_3b067_2 : decode cJ2_charAt_3b067 2 = .ok (.invokestatic 67, 3) := by decide +kernel
theorem dJ2_charAt_3b067_5 : decode cJ2_charAt_3b067 5 = .ok (.aload_n 0, 1) := by decide +kernel
theorem dJ2_charAt_3b067_6 : decode cJ2_charAt_3b067 6 = .ok (.iload_n 1, 1) := by decide +kernel
theorem dJ2_charAt_3b067_7 : decode cJ2_charAt_3b067 7 = .ok (.invokestatic 71, 3) := by decide +kernel
theorem dJ2_charAt_3b067_10 : decode cJ2_charAt_3b067 10 = .ok (.ireturn, 1) := by decide +kernel
theorem dJ2_checkIndex_2214a_0 : decode cJ2_checkIndex_2214a 0 = .ok (.iload_n 0, 1) := by decide +kernel
theorem dJ2_checkIndex_2214a_1 : decode cJ2_checkIndex_2214a 1 = .ok (.aload_n 1, 1) := by decide +kernel
theorem dJ2_checkIndex_2214a_2 : decode cJ2_checkIndex_2214a 2 = .ok (.invokestatic 48, 3) := by decide +kernel
theorem dJ2_checkIndex_2214a_5 : decode cJ2_checkIndex_2214a 5 = .ok (.invokestatic 414, 3) := by decide +kernel
theorem dJ2_checkIndex_2214a_8 : decode cJ2_checkIndex_2214a 8 = .ok (.return_, 1) := by decide +kernel
theorem dJ7_fill_d0a16_0 : decode cJ7_fill_d0a16 0 = .ok (.iconst 0, 1) := by decide +kernel
theorem dJ7_fill_d0a16_1 : decode cJ7_fill_d0a16 1 = .ok (.istore_n 3, 1) := by decide +kernel
theorem dJ7_fill_d0a16_2 : decode cJ7_fill_d0a16 2 = .ok (.aload_n 0, 1) := by decide +kernel
theorem dJ7_fill_d0a16_3 : decode cJ7_fill_d0a16 3 = .ok (.arraylength, 1) := by decide +kernel
theorem dJ7_fill_d0a16_4 : decode cJ7_fill_d0a16 4 = .ok (.istore 4, 2) := by decide +kernel
theorem dJ7_fill_d0a16_6 : decode cJ7_fill_d0a16 6 = .ok (.iload_n 3, 1) := by decide +kernel
theorem dJ7_fill_d0a16_7 : decode cJ7_fill_d0a16 7 = .ok (.iload 4, 2) := by decide +kernel
theorem dJ7_fill_d0a16_9 : decode cJ7_fill_d0a16 9 = .ok (.if_icmp .ge 13, 3) := by decide +kernel
theorem dJ7_fill_d0a16_12 : decode cJ7_fill_d0a16 12 = .ok (.aload_n 0, 1) := by decide +kernel
theorem dJ7_fill_d0a16_13 : decode cJ7_fill_d0a16 13 = .ok (.iload_n 3, 1) := by decide +kernel
theorem dJ7_fill_d0a16_14 : decode cJ7_fill_d0a16 14 = .ok (.lload_n 1, 1) := by decide +kernel
theorem dJ7_fill_d0a16_15 : decode cJ7_fill_d0a16 15 = .ok (.lastore, 1) := by decide +kernel
theorem dJ7_fill_d0a16_16 : decode cJ7_fill_d0a16 16 = .ok (.iinc 3 1, 3) := by decide +kernel
theorem dJ7_fill_d0a16_19 : decode cJ7_fill_d0a16 19 = .ok (.goto (-13), 3) := by decide +kernel
theorem dJ7_fill_d0a16_22 : decode cJ7_fill_d0a16 22 = .ok (.return_, 1) := by decide +kernel
theorem dJ3_checkIndex_8e157_0 : decode cJ3_checkIndex_8e157 0 = .ok (.iload_n 0, 1) := by decide +kernel
theorem dJ3_checkIndex_8e157_1 : decode cJ3_checkIndex_8e157 1 = .ok (.ifCond .lt 8, 3) := by decide +kernel
theorem dJ3_checkIndex_8e157_4 : decode cJ3_checkIndex_8e157 4 = .ok (.iload_n 0, 1) := by decide +kernel
theorem dJ3_checkIndex_8e157_5 : decode cJ3_checkIndex_8e157 5 = .ok (.iload_n 1, 1) := by decide +kernel
theorem dJ3_checkIndex_8e157_6 : decode cJ3_checkIndex_8e157 6 = .ok (.if_icmp .lt 10, 3) := by decide +kernel
theorem dJ3_checkIndex_8e157_9 : decode cJ3_checkIndex_8e157 9 = .ok (.aload_n 2, 1) := by decide +kernel
theorem dJ3_checkIndex_8e157_10 : decode cJ3_checkIndex_8e157 10 = .ok (.iload_n 0, 1) := by decide +kernel
theorem dJ3_checkIndex_8e157_11 : decode cJ3_checkIndex_8e157 11 = .ok (.iload_n 1, 1) := by decide +kernel
theorem dJ3_checkIndex_8e157_12 : decode cJ3_checkIndex_8e157 12 = .ok (.invokestatic 95, 3) := by decide +kernel
theorem dJ3_checkIndex_8e157_15 : decode cJ3_checkIndex_8e157 15 = .ok (.athrow, 1) := by decide +kernel
theorem dJ3_checkIndex_8e157_16 : decode cJ3_checkIndex_8e157 16 = .ok (.iload_n 0, 1) := by decide +kernel
theorem dJ3_checkIndex_8e157_17 : decode cJ3_checkIndex_8e157 17 = .ok (.ireturn, 1) := by decide +kernel
