theorem dX6_init_0 : decode cX6_init 0 = .ok (.aload_n 0, 1) := by decide +kernel
theorem dX6_init_1 : decode cX6_init 1 = .ok (.invokespecial 3, 3) := by decide +kernel
theorem dX6_init_4 : decode cX6_init 4 = .ok (.aload_n 0, 1) := by decide +kernel
theorem dX6_init_5 : decode cX6_init 5 = .ok (.bipush 64, 2) := by decide +kernel
theorem dX6_init_7 : decode cX6_init 7 = .ok (.newarray .int, 2) := by decide +kernel
theorem dX6_init_9 : decode cX6_init 9 = .ok (.putfield 9, 3) := by decide +kernel
theorem dX6_init_12 : decode cX6_init 12 = .ok (.aload_n 0, 1) := by decide +kernel
theorem dX6_init_13 : decode cX6_init 13 = .ok (.bipush 64, 2) := by decide +kernel
theorem dX6_init_15 : decode cX6_init 15 = .ok (.newarray .int, 2) := by decide +kernel
theorem dX6_init_17 : decode cX6_init 17 = .ok (.putfield 13, 3) := by decide +kernel
theorem dX6_init_20 : decode cX6_init 20 = .ok (.aload_n 0, 1) := by decide +kernel
theorem dX6_init_21 : decode cX6_init 21 = .ok (.bipush 64, 2) := by decide +kernel
theorem dX6_init_23 : decode cX6_init 23 = .ok (.newarray .int, 2) := by decide +kernel
theorem dX6_init_25 : decode cX6_init 25 = .ok (.putfield 16, 3) := by decide +kernel
theorem dX6_init_28 : decode cX6_init 28 = .ok (.aload_n 0, 1) := by decide +kernel
theorem dX6_init_29 : decode cX6_init 29 = .ok (.bipush 7, 2) := by decide +kernel
theorem dX6_init_31 : decode cX6_init 31 = .ok (.newarray .int, 2) := by decide +kernel
theorem dX6_init_33 : decode cX6_init 33 = .ok (.putfield 19, 3) := by decide +kernel
theorem dX6_init_36 : decode cX6_init 36 = .ok (.aload_n 0, 1) := by decide +kernel
theorem dX6_init_37 : decode cX6_init 37 = .ok (.bipush 10, 2) := by decide +kernel
theorem dX6_init_39 : decode cX6_init 39 = .ok (.newarray .int, 2) := by decide +kernel
theorem dX6_init_41 : decode cX6_init 41 = .ok (.putfield 22, 3) := by decide +kernel
theorem dX6_init_44 : decode cX6_init 44 = .ok (.aload_n 0, 1) := by decide +kernel
theorem dX6_init_45 : decode cX6_init 45 = .ok (.bipush 120, 2) := by decide +kernel
theorem dX6_init_47 : decode cX6_init 47 = .ok (.newarray .int, 2) := by decide +kernel
theorem dX6_init_49 : decode cX6_init 49 = .ok (.putfield 25, 3) := by decide +kernel
theorem dX6_init_52 : decode cX6_init 52 = .ok (.aload_n 0, 1) := by decide +kernel
theorem dX6_init_53 : decode cX6_init 53 = .ok (.iconst 4, 1) := by decide +kernel
theorem dX6_init_54 : decode cX6_init 54 = .ok (.newarray .int, 2) := by decide +kernel
theorem dX6_init_56 : decode cX6_init 56 = .ok (.putfield 28, 3) := by decide +kernel
theorem dX6_init_59 : decode cX6_init 59 = .ok (.aload_n 0, 1) := by decide +kernel
theorem dX6_init_60 : decode cX6_init 60 = .ok (.iconst 4, 1) := by decide +kernel
theorem dX6_init_61 : decode cX6_init 61 = .ok (.newarray .int, 2) := by decide +kernel
theorem dX6_init_63 : decode cX6_init 63 = .ok (.putfield 31, 3) := by decide +kernel
theorem dX6_init_66 : decode cX6_init 66 = .ok (.aload_n 0, 1) := by decide +kernel
theorem dX6_init_67 : decode cX6_init 67 = .ok (.sipush 160, 3) := by decide +kernel
theorem dX6_init_70 : decode cX6_init 70 = .ok (.newarray .long, 2) := by decide +kernel
theorem dX6_init_72 : decode cX6_init 72 = .ok (.putfield 34, 3) := by decide +kernel
theorem dX6_init_75 : decode cX6_init 75 = .ok (.aload_n 0, 1) := by decide +kernel
theorem dX6_init_76 : decode cX6_init 76 = .ok (.getfield 9, 3) := by decide +kernel
theorem dX6_init_79 : decode cX6_init 79 = .ok (.iconst 1, 1) := by decide +kernel
theorem dX6_init_80 : decode cX6_init 80 = .ok (.sipush 170, 3) := by decide +kernel
theorem dX6_init_83 : decode cX6_init 83 = .ok (.iastore, 1) := by decide +kernel
theorem dX6_init_84 : decode cX6_init 84 = .ok (.return_, 1) := by decide +kernel
theorem dX6_finds_0 : decode cX6_finds 0 = .ok (.aload_n 0, 1) := by decide +kernel
theorem dX6_finds_1 : decode cX6_finds 1 = .ok (.getfield 19, 3) := by decide +kernel
theorem dX6_finds_4 : decode cX6_finds 4 = .ok (.ldc 38, 2) := by decide +kernel
theorem dX6_finds_6 : decode cX6_finds 6 = .ok (.iload_n 1, 1) := by decide +kernel
theorem dX6_finds_7 : decode cX6_finds 7 = .ok (.isub, 1) := by decide +kernel
theorem dX6_finds_8 : decode cX6_finds 8 = .ok (.dup2, 1) := by decide +kernel
theorem dX6_finds_9 : decode cX6_finds 9 = .ok (.iaload, 1) := by decide +kernel
theorem dX6_finds_10 : decode cX6_finds 10 = .ok (.iconst 1, 1) := by decide +kernel
theorem dX6_finds_11 : decode cX6_finds 11 = .ok (.iadd, 1) := by decide +kernel
theorem dX6_finds_12 : decode cX6_finds 12 = .ok (.iastore, 1) := by decide +kernel
theorem dX6_finds_13 : decode cX6_finds 13 = .ok (.iload_n 1, 1) := by decide +kernel
theorem dX6_finds_14 : decode cX6_finds 14 = .ok (.ireturn, 1) := by decide +kernel
theorem dX6_orNone_0 : decode cX6_orNone 0 = .ok (.iload_n 1, 1) := by decide +kernel
theorem dX6_orNone_1 : decode cX6_orNone 1 = .ok (.ifCond .ge 12, 3) := by decide +kernel
theorem dX6_orNone_4 : decode cX6_orNone 4 = .ok (.aload_n 0, 1) := by decide +kernel
theorem dX6_orNone_5 : decode cX6_orNone 5 = .ok (.ldc 39, 2) := by decide +kernel
theorem dX6_orNone_7 : decode cX6_orNone 7 = .ok (.invokevirtual 40, 3) := by decide +kernel
theorem dX6_orNone_10 : decode cX6_orNone 10 = .ok (.goto 4, 3) := by decide +kernel
theorem dX6_orNone_13 : decode cX6_orNone 13 = .ok (.iload_n 1, 1) := by decide +kernel
theorem dX6_orNone_14 : decode cX6_orNone 14 = .ok (.ireturn, 1) := by decide +kernel
theorem dX6_in_0 : decode cX6_in 0 = .ok (.lload_n 0, 1) := by decide +kernel
theorem dX6_in_1 : decode cX6_in 1 = .ok (.iload_n 2, 1) := by decide +kernel
theorem dX6_in_2 : decode cX6_in 2 = .ok (.i2l, 1) := by decide +kernel
theorem dX6_in_3 : decode cX6_in 3 = .ok (.lcmp, 1) := by decide +kernel
theorem dX6_in_4 : decode cX6_in 4 = .ok (.ifCond .lt 14, 3) := by decide +kernel
theorem dX6_in_7 : decode cX6_in 7 = .ok (.lload_n 0, 1) := by decide +kernel
theorem dX6_in_8 : decode cX6_in 8 = .ok (.iload_n 3, 1) := by decide +kernel
theorem dX6_in_9 : decode cX6_in 9 = .ok (.i2l, 1) := by decide +kernel
theorem dX6_in_10 : decode cX6_in 10 = .ok (.lcmp, 1) := by decide +kernel
theorem dX6_in_11 : decode cX6_in 11 = .ok (.ifCond .gt 7, 3) := by decide +kernel
theorem dX6_in_14 : decode cX6_in 14 = .ok (.iconst 1, 1) := by decide +kernel
theorem dX6_in_15 : decode cX6_in 15 = .ok (.goto 4, 3) := by decide +kernel
theorem dX6_in_18 : decode cX6_in 18 = .ok (.iconst 0, 1) := by decide +kernel
theorem dX6_in_19 : decode cX6_in 19 = .ok (.ireturn, 1) := by decide +kernel
theorem dX6_held_0 : decode cX6_held 0 = .ok (.iload_n 0, 1) := by decide +kernel
theorem dX6_held_1 : decode cX6_held 1 = .ok (.iload_n 1, 1) := by decide +kernel
theorem dX6_held_2 : decode cX6_held 2 = .ok (.if_icmp .ge 7, 3) := by decide +kernel
theorem dX6_held_5 : decode cX6_held 5 = .ok (.iload_n 1, 1) := by decide +kernel
theorem dX6_held_6 : decode cX6_held 6 = .ok (.goto 13, 3) := by decide +kernel
theorem dX6_held_9 : decode cX6_held 9 = .ok (.iload_n 0, 1) := by decide +kernel
theorem dX6_held_10 : decode cX6_held 10 = .ok (.iload_n 2, 1) := by decide +kernel
theorem dX6_held_11 : decode cX6_held 11 = .ok (.if_icmp .le 7, 3) := by decide +kernel
theorem dX6_held_14 : decode cX6_held 14 = .ok (.iload_n 2, 1) := by decide +kernel
theorem dX6_held_15 : decode cX6_held 15 = .ok (.goto 4, 3) := by decide +kernel
theorem dX6_held_18 : decode cX6_held 18 = .ok (.iload_n 0, 1) := by decide +kernel
theorem dX6_held_19 : decode cX6_held 19 = .ok (.ireturn, 1) := by decide +kernel
theorem dX6_copyAll_0 : decode cX6_copyAll 0 = .ok (.iconst 0, 1) := by decide +kernel
theorem dX6_copyAll_1 : decode cX6_copyAll 1 = .ok (.istore_n 2, 1) := by decide +kernel
theorem dX6_copyAll_2 : decode cX6_copyAll 2 = .ok (.iload_n 2, 1) := by decide +kernel
theorem dX6_copyAll_3 : decode cX6_copyAll 3 = .ok (.bipush 64, 2) := by decide +kernel
theorem dX6_copyAll_5 : decode cX6_copyAll 5 = .ok (.if_icmp .ge 15, 3) := by decide +kernel
theorem dX6_copyAll_8 : decode cX6_copyAll 8 = .ok (.aload_n 1, 1) := by decide +kernel
theorem dX6_copyAll_9 : decode cX6_copyAll 9 = .ok (.iload_n 2, 1) := by decide +kernel
theorem dX6_copyAll_10 : decode cX6_copyAll 10 = .ok (.aload_n 0, 1) := by decide +kernel
theorem dX6_copyAll_11 : decode cX6_copyAll 11 = .ok (.iload_n 2, 1) := by decide +kernel
theorem dX6_copyAll_12 : decode cX6_copyAll 12 = .ok (.iaload, 1) := by decide +kernel
theorem dX6_copyAll_13 : decode cX6_copyAll 13 = .ok (.iastore, 1) := by decide +kernel
theorem dX6_copyAll_14 : decode cX6_copyAll 14 = .ok (.iinc 2 1, 3) := by decide +kernel
theorem dX6_copyAll_17 : decode cX6_copyAll 17 = .ok (.goto (-15), 3) := by decide +kernel
theorem dX6_copyAll_20 : decode cX6_copyAll 20 = .ok (.return_, 1) := by decide +kernel
theorem dX6_bits_0 : decode cX6_bits 0 = .ok (.iconst 0, 1) := by decide +kernel
theorem dX6_bits_1 : decode cX6_bits 1 = .ok (.istore_n 1, 1) := by decide +kernel
theorem dX6_bits_2 : decode cX6_bits 2 = .ok (.iload_n 0, 1) := by decide +kernel
theorem dX6_bits_3 : decode cX6_bits 3 = .ok (.istore_n 2, 1) := by decide +kernel
theorem dX6_bits_4 : decode cX6_bits 4 = .ok (.iload_n 2, 1) := by decide +kernel
theorem dX6_bits_5 : decode cX6_bits 5 = .ok (.ifCond .eq 15, 3) := by decide +kernel
theorem dX6_bits_8 : decode cX6_bits 8 = .ok (.iinc 1 1, 3) := by decide +kernel
theorem dX6_bits_11 : decode cX6_bits 11 = .ok (.iload_n 2, 1) := by decide +kernel
theorem dX6_bits_12 : decode cX6_bits 12 = .ok (.iload_n 2, 1) := by decide +kernel
theorem dX6_bits_13 : decode cX6_bits 13 = .ok (.iconst 1, 1) := by decide +kernel
theorem dX6_bits_14 : decode cX6_bits 14 = .ok (.isub, 1) := by decide +kernel
theorem dX6_bits_15 : decode cX6_bits 15 = .ok (.iand, 1) := by decide +kernel
theorem dX6_bits_16 : decode cX6_bits 16 = .ok (.istore_n 2, 1) := by decide +kernel
theorem dX6_bits_17 : decode cX6_bits 17 = .ok (.goto (-13), 3) := by decide +kernel
theorem dX6_bits_20 : decode cX6_bits 20 = .ok (.iload_n 1, 1) := by decide +kernel
theorem dX6_bits_21 : decode cX6_bits 21 = .ok (.ireturn, 1) := by decide +kernel
theorem dX6_becomes_0 : decode cX6_becomes 0 = .ok (.aload_n 0, 1) := by decide +kernel
theorem dX6_becomes_1 : decode cX6_becomes 1 = .ok (.getfield 9, 3) := by decide +kernel
theorem dX6_becomes_4 : decode cX6_becomes 4 = .ok (.iload_n 1, 1) := by decide +kernel
theorem dX6_becomes_5 : decode cX6_becomes 5 = .ok (.iaload, 1) := by decide +kernel
theorem dX6_becomes_6 : decode cX6_becomes 6 = .ok (.istore_n 3, 1) := by decide +kernel
theorem dX6_becomes_7 : decode cX6_becomes 7 = .ok (.aload_n 0, 1) := by decide +kernel
theorem dX6_becomes_8 : decode cX6_becomes 8 = .ok (.getfield 9, 3) := by decide +kernel
theorem dX6_becomes_11 : decode cX6_becomes 11 = .ok (.iload_n 1, 1) := by decide +kernel
theorem dX6_becomes_12 : decode cX6_becomes 12 = .ok (.iload_n 2, 1) := by decide +kernel
theorem dX6_becomes_13 : decode cX6_becomes 13 = .ok (.iastore, 1) := by decide +kernel
theorem dX6_becomes_14 : decode cX6_becomes 14 = .ok (.iload_n 3, 1) := by decide +kernel
theorem dX6_becomes_15 : decode cX6_becomes 15 = .ok (.ireturn, 1) := by decide +kernel
theorem dX6_isHat_0 : decode cX6_isHat 0 = .ok (.iload_n 1, 1) := by decide +kernel
theorem dX6_isHat_1 : decode cX6_isHat 1 = .ok (.i2l, 1) := by decide +kernel
theorem dX6_isHat_2 : decode cX6_isHat 2 = .ok (.iconst 0, 1) := by decide +kernel
theorem dX6_isHat_3 : decode cX6_isHat 3 = .ok (.aload_n 0, 1) := by decide +kernel
theorem dX6_isHat_4 : decode cX6_isHat 4 = .ok (.getfield 9, 3) := by decide +kernel
theorem dX6_isHat_7 : decode cX6_isHat 7 = .ok (.iconst 3, 1) := by decide +kernel
theorem dX6_isHat_8 : decode cX6_isHat 8 = .ok (.iaload, 1) := by decide +kernel
theorem dX6_isHat_9 : decode cX6_isHat 9 = .ok (.iconst 1, 1) := by decide +kernel
theorem dX6_isHat_10 : decode cX6_isHat 10 = .ok (.isub, 1) := by decide +kernel
theorem dX6_isHat_11 : decode cX6_isHat 11 = .ok (.invokestatic 44, 3) := by decide +kernel
theorem dX6_isHat_14 : decode cX6_isHat 14 = .ok (.ireturn, 1) := by decide +kernel
theorem dX6_it_0 : decode cX6_it 0 = .ok (.aload_n 0, 1) := by decide +kernel
theorem dX6_it_1 : decode cX6_it 1 = .ok (.getfield 9, 3) := by decide +kernel
theorem dX6_it_4 : decode cX6_it 4 = .ok (.iconst 4, 1) := by decide +kernel
theorem dX6_it_5 : decode cX6_it 5 = .ok (.bipush 6, 2) := by decide +kernel
theorem dX6_it_7 : decode cX6_it 7 = .ok (.iload_n 1, 1) := by decide +kernel
theorem dX6_it_8 : decode cX6_it 8 = .ok (.imul, 1) := by decide +kernel
theorem dX6_it_9 : decode cX6_it 9 = .ok (.iadd, 1) := by decide +kernel
theorem dX6_it_10 : decode cX6_it 10 = .ok (.iload_n 2, 1) := by decide +kernel
theorem dX6_it_11 : decode cX6_it 11 = .ok (.iadd, 1) := by decide +kernel
theorem dX6_it_12 : decode cX6_it 12 = .ok (.iaload, 1) := by decide +kernel
theorem dX6_it_13 : decode cX6_it 13 = .ok (.ireturn, 1) := by decide +kernel
theorem dX6_put_0 : decode cX6_put 0 = .ok (.aload_n 0, 1) := by decide +kernel
theorem dX6_put_1 : decode cX6_put 1 = .ok (.getfield 9, 3) := by decide +kernel
theorem dX6_put_4 : decode cX6_put 4 = .ok (.iconst 4, 1) := by decide +kernel
theorem dX6_put_5 : decode cX6_put 5 = .ok (.bipush 6, 2) := by decide +kernel
theorem dX6_put_7 : decode cX6_put 7 = .ok (.iload_n 1, 1) := by decide +kernel
theorem dX6_put_8 : decode cX6_put 8 = .ok (.imul, 1) := by decide +kernel
theorem dX6_put_9 : decode cX6_put 9 = .ok (.iadd, 1) := by decide +kernel
theorem dX6_put_10 : decode cX6_put 10 = .ok (.iload_n 2, 1) := by decide +kernel
theorem dX6_put_11 : decode cX6_put 11 = .ok (.iadd, 1) := by decide +kernel
theorem dX6_put_12 : decode cX6_put 12 = .ok (.iload_n 3, 1) := by decide +kernel
theorem dX6_put_13 : decode cX6_put 13 = .ok (.iastore, 1) := by decide +kernel
theorem dX6_put_14 : decode cX6_put 14 = .ok (.return_, 1) := by decide +kernel
theorem dX6_asked_0 : decode cX6_asked 0 = .ok (.aload_n 0, 1) := by decide +kernel
theorem dX6_asked_1 : decode cX6_asked 1 = .ok (.getfield 9, 3) := by decide +kernel
theorem dX6_asked_4 : decode cX6_asked 4 = .ok (.iconst 0, 1) := by decide +kernel
theorem dX6_asked_5 : decode cX6_asked 5 = .ok (.iaload, 1) := by decide +kernel
theorem dX6_asked_6 : decode cX6_asked 6 = .ok (.bipush 8, 2) := by decide +kernel
theorem dX6_asked_8 : decode cX6_asked 8 = .ok (.irem, 1) := by decide +kernel
theorem dX6_asked_9 : decode cX6_asked 9 = .ok (.ireturn, 1) := by decide +kernel
theorem dX6_saysTo_0 : decode cX6_saysTo 0 = .ok (.aload_n 0, 1) := by decide +kernel
theorem dX6_saysTo_1 : decode cX6_saysTo 1 = .ok (.iload_n 1, 1) := by decide +kernel
theorem dX6_saysTo_2 : decode cX6_saysTo 2 = .ok (.iconst 1, 1) := by decide +kernel
theorem dX6_saysTo_3 : decode cX6_saysTo 3 = .ok (.invokevirtual 48, 3) := by decide +kernel
theorem dX6_saysTo_6 : decode cX6_saysTo 6 = .ok (.iload_n 2, 1) := by decide +kernel
theorem dX6_saysTo_7 : decode cX6_saysTo 7 = .ok (.ishr, 1) := by decide +kernel
theorem dX6_saysTo_8 : decode cX6_saysTo 8 = .ok (.iconst 1, 1) := by decide +kernel
theorem dX6_saysTo_9 : decode cX6_saysTo 9 = .ok (.iand, 1) := by decide +kernel
theorem dX6_saysTo_10 : decode cX6_saysTo 10 = .ok (.istore_n 3, 1) := by decide +kernel
theorem dX6_saysTo_11 : decode cX6_saysTo 11 = .ok (.aload_n 0, 1) := by decide +kernel
theorem dX6_saysTo_12 : decode cX6_saysTo 12 = .ok (.iload_n 1, 1) := by decide +kernel
theorem dX6_saysTo_13 : decode cX6_saysTo 13 = .ok (.iconst 3, 1) := by decide +kernel
theorem dX6_saysTo_14 : decode cX6_saysTo 14 = .ok (.invokevirtual 48, 3) := by decide +kernel
theorem dX6_saysTo_17 : decode cX6_saysTo 17 = .ok (.aload_n 0, 1) := by decide +kernel
theorem dX6_saysTo_18 : decode cX6_saysTo 18 = .ok (.iload_n 1, 1) := by decide +kernel
theorem dX6_saysTo_19 : decode cX6_saysTo 19 = .ok (.iconst 2, 1) := by decide +kernel
theorem dX6_saysTo_20 : decode cX6_saysTo 20 = .ok (.invokevirtual 48, 3) := by decide +kernel
theorem dX6_saysTo_23 : decode cX6_saysTo 23 = .ok (.if_icmp .le 9, 3) := by decide +kernel
theorem dX6_saysTo_26 : decode cX6_saysTo 26 = .ok (.iconst 1, 1) := by decide +kernel
theorem dX6_saysTo_27 : decode cX6_saysTo 27 = .ok (.iload_n 3, 1) := by decide +kernel
theorem dX6_saysTo_28 : decode cX6_saysTo 28 = .ok (.isub, 1) := by decide +kernel
theorem dX6_saysTo_29 : decode cX6_saysTo 29 = .ok (.goto 4, 3) := by decide +kernel
theorem dX6_saysTo_32 : decode cX6_saysTo 32 = .ok (.iload_n 3, 1) := by decide +kernel
theorem dX6_saysTo_33 : decode cX6_saysTo 33 = .ok (.istore 4, 2) := by decide +kernel
theorem dX6_saysTo_35 : decode cX6_saysTo 35 = .ok (.aload_n 0, 1) := by decide +kernel
theorem dX6_saysTo_36 : decode cX6_saysTo 36 = .ok (.iload_n 1, 1) := by decide +kernel
theorem dX6_saysTo_37 : decode cX6_saysTo 37 = .ok (.iconst 4, 1) := by decide +kernel
theorem dX6_saysTo_38 : decode cX6_saysTo 38 = .ok (.invokevirtual 48, 3) := by decide +kernel
theorem dX6_saysTo_41 : decode cX6_saysTo 41 = .ok (.bipush 30, 2) := by decide +kernel
theorem dX6_saysTo_43 : decode cX6_saysTo 43 = .ok (.if_icmp .ge 16, 3) := by decide +kernel
theorem dX6_saysTo_46 : decode cX6_saysTo 46 = .ok (.aload_n 0, 1) := by decide +kernel
theorem dX6_saysTo_47 : decode cX6_saysTo 47 = .ok (.getfield 9, 3) := by decide +kernel
theorem dX6_saysTo_50 : decode cX6_saysTo 50 = .ok (.iconst 2, 1) := by decide +kernel
theorem dX6_saysTo_51 : decode cX6_saysTo 51 = .ok (.iaload, 1) := by decide +kernel
theorem dX6_saysTo_52 : decode cX6_saysTo 52 = .ok (.iload_n 2, 1) := by decide +kernel
theorem dX6_saysTo_53 : decode cX6_saysTo 53 = .ok (.ishr, 1) := by decide +kernel
theorem dX6_saysTo_54 : decode cX6_saysTo 54 = .ok (.iconst 1, 1) := by decide +kernel
theorem dX6_saysTo_55 : decode cX6_saysTo 55 = .ok (.iand, 1) := by decide +kernel
theorem dX6_saysTo_56 : decode cX6_saysTo 56 = .ok (.goto 4, 3) := by decide +kernel
theorem dX6_saysTo_59 : decode cX6_saysTo 59 = .ok (.iload_n 3, 1) := by decide +kernel
theorem dX6_saysTo_60 : decode cX6_saysTo 60 = .ok (.istore 5, 2) := by decide +kernel
theorem dX6_saysTo_62 : decode cX6_saysTo 62 = .ok (.aload_n 0, 1) := by decide +kernel
theorem dX6_saysTo_63 : decode cX6_saysTo 63 = .ok (.iload_n 1, 1) := by decide +kernel
theorem dX6_saysTo_64 : decode cX6_saysTo 64 = .ok (.iconst 0, 1) := by decide +kernel
theorem dX6_saysTo_65 : decode cX6_saysTo 65 = .ok (.invokevirtual 48, 3) := by decide +kernel
theorem dX6_saysTo_68 : decode cX6_saysTo 68 = .ok (.tableswitch 96 1 5 #[36, 39, 42, 67, 83], 36) := by decide +kernel
theorem dX6_saysTo_104 : decode cX6_saysTo 104 = .ok (.iload 4, 2) := by decide +kernel
theorem dX6_saysTo_106 : decode cX6_saysTo 106 = .ok (.ireturn, 1) := by decide +kernel
theorem dX6_saysTo_107 : decode cX6_saysTo 107 = .ok (.iload 5, 2) := by decide +kernel
theorem dX6_saysTo_109 : decode cX6_saysTo 109 = .ok (.ireturn, 1) := by decide +kernel
theorem dX6_saysTo_110 : decode cX6_saysTo 110 = .ok (.aload_n 0, 1) := by decide +kernel
theorem dX6_saysTo_111 : decode cX6_saysTo 111 = .ok (.iload_n 1, 1) := by decide +kernel
theorem dX6_saysTo_112 : decode cX6_saysTo 112 = .ok (.iconst 3, 1) := by decide +kernel
theorem dX6_saysTo_113 : decode cX6_saysTo 113 = .ok (.invokevirtual 48, 3) := by decide +kernel
theorem dX6_saysTo_116 : decode cX6_saysTo 116 = .ok (.ifCond .ne 17, 3) := by decide +kernel
theorem dX6_saysTo_119 : decode cX6_saysTo 119 = .ok (.aload_n 0, 1) := by decide +kernel
theorem dX6_saysTo_120 : decode cX6_saysTo 120 = .ok (.iload_n 1, 1) := by decide +kernel
theorem dX6_saysTo_121 : decode cX6_saysTo 121 = .ok (.iconst 2, 1) := by decide +kernel
theorem dX6_saysTo_122 : decode cX6_saysTo 122 = .ok (.invokevirtual 48, 3) := by decide +kernel
theorem dX6_saysTo_125 : decode cX6_saysTo 125 = .ok (.iconst 3, 1) := by decide +kernel
theorem dX6_saysTo_126 : decode cX6_saysTo 126 = .ok (.if_icmp .ge 7, 3) := by decide +kernel
theorem dX6_saysTo_129 : decode cX6_saysTo 129 = .ok (.iconst (-1), 1) := by decide +kernel
theorem dX6_saysTo_130 : decode cX6_saysTo 130 = .ok (.goto 4, 3) := by decide +kernel
theorem dX6_saysTo_133 : decode cX6_saysTo 133 = .ok (.iload_n 3, 1) := by decide +kernel
theorem dX6_saysTo_134 : decode cX6_saysTo 134 = .ok (.ireturn, 1) := by decide +kernel
theorem dX6_saysTo_135 : decode cX6_saysTo 135 = .ok (.aload_n 0, 1) := by decide +kernel
theorem dX6_saysTo_136 : decode cX6_saysTo 136 = .ok (.iload_n 1, 1) := by decide +kernel
theorem dX6_saysTo_137 : decode cX6_saysTo 137 = .ok (.iconst 4, 1) := by decide +kernel
theorem dX6_saysTo_138 : decode cX6_saysTo 138 = .ok (.invokevirtual 48, 3) := by decide +kernel
theorem dX6_saysTo_141 : decode cX6_saysTo 141 = .ok (.ifCond .ne 7, 3) := by decide +kernel
theorem dX6_saysTo_144 : decode cX6_saysTo 144 = .ok (.iconst (-1), 1) := by decide +kernel
theorem dX6_saysTo_145 : decode cX6_saysTo 145 = .ok (.goto 5, 3) := by decide +kernel
theorem dX6_saysTo_148 : decode cX6_saysTo 148 = .ok (.iload 4, 2) := by decide +kernel
theorem dX6_saysTo_150 : decode cX6_saysTo 150 = .ok (.ireturn, 1) := by decide +kernel
theorem dX6_saysTo_151 : decode cX6_saysTo 151 = .ok (.iload_n 2, 1) := by decide +kernel
theorem dX6_saysTo_152 : decode cX6_saysTo 152 = .ok (.bipush 7, 2) := by decide +kernel
theorem dX6_saysTo_154 : decode cX6_saysTo 154 = .ok (.if_icmp .ne 7, 3) := by decide +kernel
theorem dX6_saysTo_157 : decode cX6_saysTo 157 = .ok (.iconst 1, 1) := by decide +kernel
theorem dX6_saysTo_158 : decode cX6_saysTo 158 = .ok (.goto 5, 3) := by decide +kernel
theorem dX6_saysTo_161 : decode cX6_saysTo 161 = .ok (.iload 5, 2) := by decide +kernel
theorem dX6_saysTo_163 : decode cX6_saysTo 163 = .ok (.ireturn, 1) := by decide +kernel
theorem dX6_saysTo_164 : decode cX6_saysTo 164 = .ok (.iload_n 3, 1) := by decide +kernel
theorem dX6_saysTo_165 : decode cX6_saysTo 165 = .ok (.ireturn, 1) := by decide +kernel
theorem dX6_weighs_0 : decode cX6_weighs 0 = .ok (.iconst 1, 1) := by decide +kernel
theorem dX6_weighs_1 : decode cX6_weighs 1 = .ok (.aload_n 0, 1) := by decide +kernel
theorem dX6_weighs_2 : decode cX6_weighs 2 = .ok (.iload_n 1, 1) := by decide +kernel
theorem dX6_weighs_3 : decode cX6_weighs 3 = .ok (.iconst 4, 1) := by decide +kernel
theorem dX6_weighs_4 : decode cX6_weighs 4 = .ok (.invokevirtual 48, 3) := by decide +kernel
theorem dX6_weighs_7 : decode cX6_weighs 7 = .ok (.bipush 50, 2) := by decide +kernel
theorem dX6_weighs_9 : decode cX6_weighs 9 = .ok (.idiv, 1) := by decide +kernel
theorem dX6_weighs_10 : decode cX6_weighs 10 = .ok (.iadd, 1) := by decide +kernel
theorem dX6_weighs_11 : decode cX6_weighs 11 = .ok (.istore_n 2, 1) := by decide +kernel
theorem dX6_weighs_12 : decode cX6_weighs 12 = .ok (.aload_n 0, 1) := by decide +kernel
theorem dX6_weighs_13 : decode cX6_weighs 13 = .ok (.iload_n 1, 1) := by decide +kernel
theorem dX6_weighs_14 : decode cX6_weighs 14 = .ok (.iconst 0, 1) := by decide +kernel
theorem dX6_weighs_15 : decode cX6_weighs 15 = .ok (.invokevirtual 48, 3) := by decide +kernel
theorem dX6_weighs_18 : decode cX6_weighs 18 = .ok (.tableswitch 59 1 5 #[34, 59, 36, 38, 42], 34) := by decide +kernel
theorem dX6_weighs_52 : decode cX6_weighs 52 = .ok (.iload_n 2, 1) := by decide +kernel
theorem dX6_weighs_53 : decode cX6_weighs 53 = .ok (.ireturn, 1) := by decide +kernel
theorem dX6_weighs_54 : decode cX6_weighs 54 = .ok (.iconst 3, 1) := by decide +kernel
theorem dX6_weighs_55 : decode cX6_weighs 55 = .ok (.ireturn, 1) := by decide +kernel
theorem dX6_weighs_56 : decode cX6_weighs 56 = .ok (.iconst 2, 1) := by decide +kernel
theorem dX6_weighs_57 : decode cX6_weighs 57 = .ok (.iload_n 2, 1) := by decide +kernel
theorem dX6_weighs_58 : decode cX6_weighs 58 = .ok (.imul, 1) := by decide +kernel
theorem dX6_weighs_59 : decode cX6_weighs 59 = .ok (.ireturn, 1) := by decide +kernel
theorem dX6_weighs_60 : decode cX6_weighs 60 = .ok (.aload_n 0, 1) := by decide +kernel
theorem dX6_weighs_61 : decode cX6_weighs 61 = .ok (.getfield 9, 3) := by decide +kernel
theorem dX6_weighs_64 : decode cX6_weighs 64 = .ok (.iconst 0, 1) := by decide +kernel
theorem dX6_weighs_65 : decode cX6_weighs 65 = .ok (.iaload, 1) := by decide +kernel
theorem dX6_weighs_66 : decode cX6_weighs 66 = .ok (.iconst 3, 1) := by decide +kernel
theorem dX6_weighs_67 : decode cX6_weighs 67 = .ok (.irem, 1) := by decide +kernel
theorem dX6_weighs_68 : decode cX6_weighs 68 = .ok (.ifCond .ne 7, 3) := by decide +kernel
theorem dX6_weighs_71 : decode cX6_weighs 71 = .ok (.iconst 2, 1) := by decide +kernel
theorem dX6_weighs_72 : decode cX6_weighs 72 = .ok (.goto 4, 3) := by decide +kernel
theorem dX6_weighs_75 : decode cX6_weighs 75 = .ok (.iconst 1, 1) := by decide +kernel
theorem dX6_weighs_76 : decode cX6_weighs 76 = .ok (.ireturn, 1) := by decide +kernel
theorem dX6_weighs_77 : decode cX6_weighs 77 = .ok (.iconst 1, 1) := by decide +kernel
theorem dX6_weighs_78 : decode cX6_weighs 78 = .ok (.ireturn, 1) := by decide +kernel
theorem dX6_doesLearn_0 : decode cX6_doesLearn 0 = .ok (.aload_n 0, 1) := by decide +kernel
theorem dX6_doesLearn_1 : decode cX6_doesLearn 1 = .ok (.iload_n 1, 1) := by decide +kernel
theorem dX6_doesLearn_2 : decode cX6_doesLearn 2 = .ok (.iconst 0, 1) := by decide +kernel
theorem dX6_doesLearn_3 : decode cX6_doesLearn 3 = .ok (.invokevirtual 48, 3) := by decide +kernel
theorem dX6_doesLearn_6 : decode cX6_doesLearn 6 = .ok (.tableswitch 51 1 4 #[30, 51, 32, 34], 30) := by decide +kernel
theorem dX6_doesLearn_36 : decode cX6_doesLearn 36 = .ok (.iconst 1, 1) := by decide +kernel
theorem dX6_doesLearn_37 : decode cX6_doesLearn 37 = .ok (.ireturn, 1) := by decide +kernel
theorem dX6_doesLearn_38 : decode cX6_doesLearn 38 = .ok (.iconst 0, 1) := by decide +kernel
theorem dX6_doesLearn_39 : decode cX6_doesLearn 39 = .ok (.ireturn, 1) := by decide +kernel
theorem dX6_doesLearn_40 : decode cX6_doesLearn 40 = .ok (.aload_n 0, 1) := by decide +kernel
theorem dX6_doesLearn_41 : decode cX6_doesLearn 41 = .ok (.getfield 9, 3) := by decide +kernel
theorem dX6_doesLearn_44 : decode cX6_doesLearn 44 = .ok (.iconst 0, 1) := by decide +kernel
theorem dX6_doesLearn_45 : decode cX6_doesLearn 45 = .ok (.iaload, 1) := by decide +kernel
theorem dX6_doesLearn_46 : decode cX6_doesLearn 46 = .ok (.iconst 2, 1) := by decide +kernel
theorem dX6_doesLearn_47 : decode cX6_doesLearn 47 = .ok (.irem, 1) := by decide +kernel
theorem dX6_doesLearn_48 : decode cX6_doesLearn 48 = .ok (.ifCond .ne 7, 3) := by decide +kernel
theorem dX6_doesLearn_51 : decode cX6_doesLearn 51 = .ok (.iconst 1, 1) := by decide +kernel
theorem dX6_doesLearn_52 : decode cX6_doesLearn 52 = .ok (.goto 4, 3) := by decide +kernel
theorem dX6_doesLearn_55 : decode cX6_doesLearn 55 = .ok (.iconst 0, 1) := by decide +kernel
theorem dX6_doesLearn_56 : decode cX6_doesLearn 56 = .ok (.ireturn, 1) := by decide +kernel
theorem dX6_doesLearn_57 : decode cX6_doesLearn 57 = .ok (.aload_n 0, 1) := by decide +kernel
theorem dX6_doesLearn_58 : decode cX6_doesLearn 58 = .ok (.iload_n 1, 1) := by decide +kernel
theorem dX6_doesLearn_59 : decode cX6_doesLearn 59 = .ok (.iconst 4, 1) := by decide +kernel
theorem dX6_doesLearn_60 : decode cX6_doesLearn 60 = .ok (.invokevirtual 48, 3) := by decide +kernel
theorem dX6_doesLearn_63 : decode cX6_doesLearn 63 = .ok (.bipush 50, 2) := by decide +kernel
theorem dX6_doesLearn_65 : decode cX6_doesLearn 65 = .ok (.if_icmp .lt 7, 3) := by decide +kernel
theorem dX6_doesLearn_68 : decode cX6_doesLearn 68 = .ok (.iconst 1, 1) := by decide +kernel
theorem dX6_doesLearn_69 : decode cX6_doesLearn 69 = .ok (.goto 4, 3) := by decide +kernel
theorem dX6_doesLearn_72 : decode cX6_doesLearn 72 = .ok (.iconst 0, 1) := by decide +kernel
theorem dX6_doesLearn_73 : decode cX6_doesLearn 73 = .ok (.ireturn, 1) := by decide +kernel
theorem dX6_stirs_0 : decode cX6_stirs 0 = .ok (.aload_n 0, 1) := by decide +kernel
theorem dX6_stirs_1 : decode cX6_stirs 1 = .ok (.iload_n 1, 1) := by decide +kernel
theorem dX6_stirs_2 : decode cX6_stirs 2 = .ok (.iconst 0, 1) := by decide +kernel
theorem dX6_stirs_3 : decode cX6_stirs 3 = .ok (.invokevirtual 48, 3) := by decide +kernel
theorem dX6_stirs_6 : decode cX6_stirs 6 = .ok (.tableswitch 41 1 5 #[34, 36, 39, 34, 34], 34) := by decide +kernel
theorem dX6_stirs_40 : decode cX6_stirs 40 = .ok (.iconst 3, 1) := by decide +kernel
theorem dX6_stirs_41 : decode cX6_stirs 41 = .ok (.ireturn, 1) := by decide +kernel
theorem dX6_stirs_42 : decode cX6_stirs 42 = .ok (.bipush 10, 2) := by decide +kernel
theorem dX6_stirs_44 : decode cX6_stirs 44 = .ok (.ireturn, 1) := by decide +kernel
theorem dX6_stirs_45 : decode cX6_stirs 45 = .ok (.iconst 1, 1) := by decide +kernel
theorem dX6_stirs_46 : decode cX6_stirs 46 = .ok (.ireturn, 1) := by decide +kernel
theorem dX6_stirs_47 : decode cX6_stirs 47 = .ok (.iconst 5, 1) := by decide +kernel
theorem dX6_stirs_48 : decode cX6_stirs 48 = .ok (.ireturn, 1) := by decide +kernel
theorem dX6_holds_0 : decode cX6_holds 0 = .ok (.iload_n 1, 1) := by decide +kernel
theorem dX6_holds_1 : decode cX6_holds 1 = .ok (.i2l, 1) := by decide +kernel
theorem dX6_holds_2 : decode cX6_holds 2 = .ok (.iconst 0, 1) := by decide +kernel
theorem dX6_holds_3 : decode cX6_holds 3 = .ok (.iconst 1, 1) := by decide +kernel
theorem dX6_holds_4 : decode cX6_holds 4 = .ok (.invokestatic 44, 3) := by decide +kernel
theorem dX6_holds_7 : decode cX6_holds 7 = .ok (.ifCond .eq 26, 3) := by decide +kernel
theorem dX6_holds_10 : decode cX6_holds 10 = .ok (.iload_n 2, 1) := by decide +kernel
theorem dX6_holds_11 : decode cX6_holds 11 = .ok (.i2l, 1) := by decide +kernel
theorem dX6_holds_12 : decode cX6_holds 12 = .ok (.iconst 0, 1) := by decide +kernel
theorem dX6_holds_13 : decode cX6_holds 13 = .ok (.sipush 255, 3) := by decide +kernel
theorem dX6_holds_16 : decode cX6_holds 16 = .ok (.invokestatic 44, 3) := by decide +kernel
theorem dX6_holds_19 : decode cX6_holds 19 = .ok (.ifCond .eq 14, 3) := by decide +kernel
theorem dX6_holds_22 : decode cX6_holds 22 = .ok (.aload_n 0, 1) := by decide +kernel
theorem dX6_holds_23 : decode cX6_holds 23 = .ok (.iconst 1, 1) := by decide +kernel
theorem dX6_holds_24 : decode cX6_holds 24 = .ok (.iload_n 1, 1) := by decide +kernel
theorem dX6_holds_25 : decode cX6_holds 25 = .ok (.iadd, 1) := by decide +kernel
theorem dX6_holds_26 : decode cX6_holds 26 = .ok (.iload_n 2, 1) := by decide +kernel
theorem dX6_holds_27 : decode cX6_holds 27 = .ok (.invokevirtual 52, 3) := by decide +kernel
theorem dX6_holds_30 : decode cX6_holds 30 = .ok (.goto 9, 3) := by decide +kernel
theorem dX6_holds_33 : decode cX6_holds 33 = .ok (.aload_n 0, 1) := by decide +kernel
theorem dX6_holds_34 : decode cX6_holds 34 = .ok (.ldc 38, 2) := by decide +kernel
theorem dX6_holds_36 : decode cX6_holds 36 = .ok (.invokevirtual 40, 3) := by decide +kernel
theorem dX6_holds_39 : decode cX6_holds 39 = .ok (.ireturn, 1) := by decide +kernel
theorem dX6_weight_0 : decode cX6_weight 0 = .ok (.iconst 0, 1) := by decide +kernel
theorem dX6_weight_1 : decode cX6_weight 1 = .ok (.istore_n 3, 1) := by decide +kernel
theorem dX6_weight_2 : decode cX6_weight 2 = .ok (.iconst 0, 1) := by decide +kernel
theorem dX6_weight_3 : decode cX6_weight 3 = .ok (.istore 4, 2) := by decide +kernel
theorem dX6_weight_5 : decode cX6_weight 5 = .ok (.iload 4, 2) := by decide +kernel
theorem dX6_weight_7 : decode cX6_weight 7 = .ok (.aload_n 0, 1) := by decide +kernel
theorem dX6_weight_8 : decode cX6_weight 8 = .ok (.getfield 9, 3) := by decide +kernel
theorem dX6_weight_11 : decode cX6_weight 11 = .ok (.iconst 3, 1) := by decide +kernel
theorem dX6_weight_12 : decode cX6_weight 12 = .ok (.iaload, 1) := by decide +kernel
theorem dX6_weight_13 : decode cX6_weight 13 = .ok (.if_icmp .ge 44, 3) := by decide +kernel
theorem dX6_weight_16 : decode cX6_weight 16 = .ok (.iload_n 3, 1) := by decide +kernel
theorem dX6_weight_17 : decode cX6_weight 17 = .ok (.aload_n 0, 1) := by decide +kernel
theorem dX6_weight_18 : decode cX6_weight 18 = .ok (.iload 4, 2) := by decide +kernel
theorem dX6_weight_20 : decode cX6_weight 20 = .ok (.iconst 5, 1) := by decide +kernel
theorem dX6_weight_21 : decode cX6_weight 21 = .ok (.invokevirtual 48, 3) := by decide +kernel
theorem dX6_weight_24 : decode cX6_weight 24 = .ok (.iconst 1, 1) := by decide +kernel
theorem dX6_weight_25 : decode cX6_weight 25 = .ok (.if_icmp .ne 23, 3) := by decide +kernel
theorem dX6_weight_28 : decode cX6_weight 28 = .ok (.aload_n 0, 1) := by decide +kernel
theorem dX6_weight_29 : decode cX6_weight 29 = .ok (.iload 4, 2) := by decide +kernel
theorem dX6_weight_31 : decode cX6_weight 31 = .ok (.iload_n 1, 1) := by decide +kernel
theorem dX6_weight_32 : decode cX6_weight 32 = .ok (.invokevirtual 55, 3) := by decide +kernel
theorem dX6_weight_35 : decode cX6_weight 35 = .ok (.iload_n 2, 1) := by decide +kernel
theorem dX6_weight_36 : decode cX6_weight 36 = .ok (.if_icmp .ne 12, 3) := by decide +kernel
theorem dX6_weight_39 : decode cX6_weight 39 = .ok (.aload_n 0, 1) := by decide +kernel
theorem dX6_weight_40 : decode cX6_weight 40 = .ok (.iload 4, 2) := by decide +kernel
theorem dX6_weight_42 : decode cX6_weight 42 = .ok (.invokevirtual 58, 3) := by decide +kernel
theorem dX6_weight_45 : decode cX6_weight 45 = .ok (.goto 4, 3) := by decide +kernel
theorem dX6_weight_48 : decode cX6_weight 48 = .ok (.iconst 0, 1) := by decide +kernel
theorem dX6_weight_49 : decode cX6_weight 49 = .ok (.iadd, 1) := by decide +kernel
theorem dX6_weight_50 : decode cX6_weight 50 = .ok (.istore_n 3, 1) := by decide +kernel
theorem dX6_weight_51 : decode cX6_weight 51 = .ok (.iinc 4 1, 3) := by decide +kernel
theorem dX6_weight_54 : decode cX6_weight 54 = .ok (.goto (-49), 3) := by decide +kernel
theorem dX6_weight_57 : decode cX6_weight 57 = .ok (.iload_n 3, 1) := by decide +kernel
theorem dX6_weight_58 : decode cX6_weight 58 = .ok (.ireturn, 1) := by decide +kernel
theorem dX6_onTable_0 : decode cX6_onTable 0 = .ok (.iconst 0, 1) := by decide +kernel
theorem dX6_onTable_1 : decode cX6_onTable 1 = .ok (.istore_n 1, 1) := by decide +kernel
theorem dX6_onTable_2 : decode cX6_onTable 2 = .ok (.iconst 0, 1) := by decide +kernel
theorem dX6_onTable_3 : decode cX6_onTable 3 = .ok (.istore_n 2, 1) := by decide +kernel
theorem dX6_onTable_4 : decode cX6_onTable 4 = .ok (.iload_n 2, 1) := by decide +kernel
theorem dX6_onTable_5 : decode cX6_onTable 5 = .ok (.aload_n 0, 1) := by decide +kernel
theorem dX6_onTable_6 : decode cX6_onTable 6 = .ok (.getfield 9, 3) := by decide +kernel
theorem dX6_onTable_9 : decode cX6_onTable 9 = .ok (.iconst 3, 1) := by decide +kernel
theorem dX6_onTable_10 : decode cX6_onTable 10 = .ok (.iaload, 1) := by decide +kernel
theorem dX6_onTable_11 : decode cX6_onTable 11 = .ok (.if_icmp .ge 20, 3) := by decide +kernel
theorem dX6_onTable_14 : decode cX6_onTable 14 = .ok (.iload_n 1, 1) := by decide +kernel
theorem dX6_onTable_15 : decode cX6_onTable 15 = .ok (.aload_n 0, 1) := by decide +kernel
theorem dX6_onTable_16 : decode cX6_onTable 16 = .ok (.iload_n 2, 1) := by decide +kernel
theorem dX6_onTable_17 : decode cX6_onTable 17 = .ok (.iconst 5, 1) := by decide +kernel
theorem dX6_onTable_18 : decode cX6_onTable 18 = .ok (.invokevirtual 48, 3) := by decide +kernel
theorem dX6_onTable_21 : decode cX6_onTable 21 = .ok (.iload_n 2, 1) := by decide +kernel
theorem dX6_onTable_22 : decode cX6_onTable 22 = .ok (.ishl, 1) := by decide +kernel
theorem dX6_onTable_23 : decode cX6_onTable 23 = .ok (.ior, 1) := by decide +kernel
theorem dX6_onTable_24 : decode cX6_onTable 24 = .ok (.istore_n 1, 1) := by decide +kernel
theorem dX6_onTable_25 : decode cX6_onTable 25 = .ok (.iinc 2 1, 3) := by decide +kernel
theorem dX6_onTable_28 : decode cX6_onTable 28 = .ok (.goto (-24), 3) := by decide +kernel
theorem dX6_onTable_31 : decode cX6_onTable 31 = .ok (.iload_n 1, 1) := by decide +kernel
theorem dX6_onTable_32 : decode cX6_onTable 32 = .ok (.ireturn, 1) := by decide +kernel
theorem dX6_trueOnes_0 : decode cX6_trueOnes 0 = .ok (.sipush 255, 3) := by decide +kernel
theorem dX6_trueOnes_3 : decode cX6_trueOnes 3 = .ok (.aload_n 0, 1) := by decide +kernel
theorem dX6_trueOnes_4 : decode cX6_trueOnes 4 = .ok (.getfield 9, 3) := by decide +kernel
theorem dX6_trueOnes_7 : decode cX6_trueOnes 7 = .ok (.iconst 1, 1) := by decide +kernel
theorem dX6_trueOnes_8 : decode cX6_trueOnes 8 = .ok (.iaload, 1) := by decide +kernel
theorem dX6_trueOnes_9 : decode cX6_trueOnes 9 = .ok (.aload_n 0, 1) := by decide +kernel
theorem dX6_trueOnes_10 : decode cX6_trueOnes 10 = .ok (.getfield 9, 3) := by decide +kernel
theorem dX6_trueOnes_13 : decode cX6_trueOnes 13 = .ok (.iconst 2, 1) := by decide +kernel
theorem dX6_trueOnes_14 : decode cX6_trueOnes 14 = .ok (.iaload, 1) := by decide +kernel
theorem dX6_trueOnes_15 : decode cX6_trueOnes 15 = .ok (.ixor, 1) := by decide +kernel
theorem dX6_trueOnes_16 : decode cX6_trueOnes 16 = .ok (.iconst (-1), 1) := by decide +kernel
theorem dX6_trueOnes_17 : decode cX6_trueOnes 17 = .ok (.ixor, 1) := by decide +kernel
theorem dX6_trueOnes_18 : decode cX6_trueOnes 18 = .ok (.iand, 1) := by decide +kernel
theorem dX6_trueOnes_19 : decode cX6_trueOnes 19 = .ok (.ireturn, 1) := by decide +kernel
theorem dX6_now_0 : decode cX6_now 0 = .ok (.iload_n 1, 1) := by decide +kernel
theorem dX6_now_1 : decode cX6_now 1 = .ok (.tableswitch 100 0 7 #[47, 54, 59, 59, 70, 80, 90, 95], 47) := by decide +kernel
theorem dX6_now_48 : decode cX6_now 48 = .ok (.aload_n 0, 1) := by decide +kernel
theorem dX6_now_49 : decode cX6_now 49 = .ok (.getfield 9, 3) := by decide +kernel
theorem dX6_now_52 : decode cX6_now 52 = .ok (.iconst 0, 1) := by decide +kernel
theorem dX6_now_53 : decode cX6_now 53 = .ok (.iaload, 1) := by decide +kernel
theorem dX6_now_54 : decode cX6_now 54 = .ok (.ireturn, 1) := by decide +kernel
theorem dX6_now_55 : decode cX6_now 55 = .ok (.aload_n 0, 1) := by decide +kernel
theorem dX6_now_56 : decode cX6_now 56 = .ok (.invokevirtual 61, 3) := by decide +kernel
theorem dX6_now_59 : decode cX6_now 59 = .ok (.ireturn, 1) := by decide +kernel
theorem dX6_now_60 : decode cX6_now 60 = .ok (.aload_n 0, 1) := by decide +kernel
theorem dX6_now_61 : decode cX6_now 61 = .ok (.getfield 9, 3) := by decide +kernel
theorem dX6_now_64 : decode cX6_now 64 = .ok (.iconst 1, 1) := by decide +kernel
theorem dX6_now_65 : decode cX6_now 65 = .ok (.iload_n 1, 1) := by decide +kernel
theorem dX6_now_66 : decode cX6_now 66 = .ok (.iadd, 1) := by decide +kernel
theorem dX6_now_67 : decode cX6_now 67 = .ok (.iconst 2, 1) := by decide +kernel
theorem dX6_now_68 : decode cX6_now 68 = .ok (.isub, 1) := by decide +kernel
theorem dX6_now_69 : decode cX6_now 69 = .ok (.iaload, 1) := by decide +kernel
theorem dX6_now_70 : decode cX6_now 70 = .ok (.ireturn, 1) := by decide +kernel
theorem dX6_now_71 : decode cX6_now 71 = .ok (.aload_n 0, 1) := by decide +kernel
theorem dX6_now_72 : decode cX6_now 72 = .ok (.aload_n 0, 1) := by decide +kernel
theorem dX6_now_73 : decode cX6_now 73 = .ok (.invokevirtual 61, 3) := by decide +kernel
theorem dX6_now_76 : decode cX6_now 76 = .ok (.iconst 1, 1) := by decide +kernel
theorem dX6_now_77 : decode cX6_now 77 = .ok (.invokevirtual 65, 3) := by decide +kernel
theorem dX6_now_80 : decode cX6_now 80 = .ok (.ireturn, 1) := by decide +kernel
theorem dX6_now_81 : decode cX6_now 81 = .ok (.aload_n 0, 1) := by decide +kernel
theorem dX6_now_82 : decode cX6_now 82 = .ok (.aload_n 0, 1) := by decide +kernel
theorem dX6_now_83 : decode cX6_now 83 = .ok (.invokevirtual 61, 3) := by decide +kernel
theorem dX6_now_86 : decode cX6_now 86 = .ok (.iconst 0, 1) := by decide +kernel
theorem dX6_now_87 : decode cX6_now 87 = .ok (.invokevirtual 65, 3) := by decide +kernel
theorem dX6_now_90 : decode cX6_now 90 = .ok (.ireturn, 1) := by decide +kernel
theorem dX6_now_91 : decode cX6_now 91 = .ok (.aload_n 0, 1) := by decide +kernel
theorem dX6_now_92 : decode cX6_now 92 = .ok (.invokevirtual 68, 3) := by decide +kernel
theorem dX6_now_95 : decode cX6_now 95 = .ok (.ireturn, 1) := by decide +kernel
theorem dX6_now_96 : decode cX6_now 96 = .ok (.aload_n 0, 1) := by decide +kernel
theorem dX6_now_97 : decode cX6_now 97 = .ok (.invokevirtual 71, 3) := by decide +kernel
theorem dX6_now_100 : decode cX6_now 100 = .ok (.ireturn, 1) := by decide +kernel
theorem dX6_now_101 : decode cX6_now 101 = .ok (.aload_n 0, 1) := by decide +kernel
theorem dX6_now_102 : decode cX6_now 102 = .ok (.ldc 38, 2) := by decide +kernel
theorem dX6_now_104 : decode cX6_now 104 = .ok (.invokevirtual 40, 3) := by decide +kernel
theorem dX6_now_107 : decode cX6_now 107 = .ok (.ireturn, 1) := by decide +kernel
theorem dX6_comesAs_0 : decode cX6_comesAs 0 = .ok (.aload_n 0, 1) := by decide +kernel
theorem dX6_comesAs_1 : decode cX6_comesAs 1 = .ok (.getfield 9, 3) := by decide +kernel
theorem dX6_comesAs_4 : decode cX6_comesAs 4 = .ok (.iconst 3, 1) := by decide +kernel
theorem dX6_comesAs_5 : decode cX6_comesAs 5 = .ok (.iaload, 1) := by decide +kernel
theorem dX6_comesAs_6 : decode cX6_comesAs 6 = .ok (.istore 5, 2) := by decide +kernel
theorem dX6_comesAs_8 : decode cX6_comesAs 8 = .ok (.aload_n 0, 1) := by decide +kernel
theorem dX6_comesAs_9 : decode cX6_comesAs 9 = .ok (.getfield 9, 3) := by decide +kernel
theorem dX6_comesAs_12 : decode cX6_comesAs 12 = .ok (.iconst 3, 1) := by decide +kernel
theorem dX6_comesAs_13 : decode cX6_comesAs 13 = .ok (.dup2, 1) := by decide +kernel
theorem dX6_comesAs_14 : decode cX6_comesAs 14 = .ok (.iaload, 1) := by decide +kernel
theorem dX6_comesAs_15 : decode cX6_comesAs 15 = .ok (.iconst 1, 1) := by decide +kernel
theorem dX6_comesAs_16 : decode cX6_comesAs 16 = .ok (.iadd, 1) := by decide +kernel
theorem dX6_comesAs_17 : decode cX6_comesAs 17 = .ok (.iastore, 1) := by decide +kernel
theorem dX6_comesAs_18 : decode cX6_comesAs 18 = .ok (.aload_n 0, 1) := by decide +kernel
theorem dX6_comesAs_19 : decode cX6_comesAs 19 = .ok (.iload 5, 2) := by decide +kernel
theorem dX6_comesAs_21 : decode cX6_comesAs 21 = .ok (.iconst 0, 1) := by decide +kernel
theorem dX6_comesAs_22 : decode cX6_comesAs 22 = .ok (.iload_n 1, 1) := by decide +kernel
theorem dX6_comesAs_23 : decode cX6_comesAs 23 = .ok (.invokevirtual 74, 3) := by decide +kernel
theorem dX6_comesAs_26 : decode cX6_comesAs 26 = .ok (.aload_n 0, 1) := by decide +kernel
theorem dX6_comesAs_27 : decode cX6_comesAs 27 = .ok (.iload 5, 2) := by decide +kernel
theorem dX6_comesAs_29 : decode cX6_comesAs 29 = .ok (.iconst 1, 1) := by decide +kernel
theorem dX6_comesAs_30 : decode cX6_comesAs 30 = .ok (.iload_n 2, 1) := by decide +kernel
theorem dX6_comesAs_31 : decode cX6_comesAs 31 = .ok (.invokevirtual 74, 3) := by decide +kernel
theorem dX6_comesAs_34 : decode cX6_comesAs 34 = .ok (.aload_n 0, 1) := by decide +kernel
theorem dX6_comesAs_35 : decode cX6_comesAs 35 = .ok (.iload 5, 2) := by decide +kernel
theorem dX6_comesAs_37 : decode cX6_comesAs 37 = .ok (.iconst 2, 1) := by decide +kernel
theorem dX6_comesAs_38 : decode cX6_comesAs 38 = .ok (.iconst 0, 1) := by decide +kernel
theorem dX6_comesAs_39 : decode cX6_comesAs 39 = .ok (.invokevirtual 74, 3) := by decide +kernel
theorem dX6_comesAs_42 : decode cX6_comesAs 42 = .ok (.aload_n 0, 1) := by decide +kernel
theorem dX6_comesAs_43 : decode cX6_comesAs 43 = .ok (.iload 5, 2) := by decide +kernel
theorem dX6_comesAs_45 : decode cX6_comesAs 45 = .ok (.iconst 3, 1) := by decide +kernel
theorem dX6_comesAs_46 : decode cX6_comesAs 46 = .ok (.iconst 0, 1) := by decide +kernel
theorem dX6_comesAs_47 : decode cX6_comesAs 47 = .ok (.invokevirtual 74, 3) := by decide +kernel
theorem dX6_comesAs_50 : decode cX6_comesAs 50 = .ok (.aload_n 0, 1) := by decide +kernel
theorem dX6_comesAs_51 : decode cX6_comesAs 51 = .ok (.iload 5, 2) := by decide +kernel
theorem dX6_comesAs_53 : decode cX6_comesAs 53 = .ok (.iconst 4, 1) := by decide +kernel
theorem dX6_comesAs_54 : decode cX6_comesAs 54 = .ok (.iload_n 3, 1) := by decide +kernel
theorem dX6_comesAs_55 : decode cX6_comesAs 55 = .ok (.invokevirtual 74, 3) := by decide +kernel
theorem dX6_comesAs_58 : decode cX6_comesAs 58 = .ok (.aload_n 0, 1) := by decide +kernel
theorem dX6_comesAs_59 : decode cX6_comesAs 59 = .ok (.iload 5, 2) := by decide +kernel
theorem dX6_comesAs_61 : decode cX6_comesAs 61 = .ok (.iconst 5, 1) := by decide +kernel
theorem dX6_comesAs_62 : decode cX6_comesAs 62 = .ok (.iload 4, 2) := by decide +kernel
theorem dX6_comesAs_64 : decode cX6_comesAs 64 = .ok (.invokevirtual 74, 3) := by decide +kernel
theorem dX6_comesAs_67 : decode cX6_comesAs 67 = .ok (.iload 5, 2) := by decide +kernel
theorem dX6_comesAs_69 : decode cX6_comesAs 69 = .ok (.ireturn, 1) := by decide +kernel
theorem dX6_hat_0 : decode cX6_hat 0 = .ok (.iload_n 1, 1) := by decide +kernel
theorem dX6_hat_1 : decode cX6_hat 1 = .ok (.i2l, 1) := by decide +kernel
theorem dX6_hat_2 : decode cX6_hat 2 = .ok (.iconst 0, 1) := by decide +kernel
theorem dX6_hat_3 : decode cX6_hat 3 = .ok (.iconst 5, 1) := by decide +kernel
theorem dX6_hat_4 : decode cX6_hat 4 = .ok (.invokestatic 44, 3) := by decide +kernel
theorem dX6_hat_7 : decode cX6_hat 7 = .ok (.ifCond .eq 15, 3) := by decide +kernel
theorem dX6_hat_10 : decode cX6_hat 10 = .ok (.iload_n 2, 1) := by decide +kernel
theorem dX6_hat_11 : decode cX6_hat 11 = .ok (.i2l, 1) := by decide +kernel
theorem dX6_hat_12 : decode cX6_hat 12 = .ok (.iconst 0, 1) := by decide +kernel
theorem dX6_hat_13 : decode cX6_hat 13 = .ok (.sipush 255, 3) := by decide +kernel
theorem dX6_hat_16 : decode cX6_hat 16 = .ok (.invokestatic 44, 3) := by decide +kernel
theorem dX6_hat_19 : decode cX6_hat 19 = .ok (.ifCond .ne 10, 3) := by decide +kernel
theorem dX6_hat_22 : decode cX6_hat 22 = .ok (.aload_n 0, 1) := by decide +kernel
theorem dX6_hat_23 : decode cX6_hat 23 = .ok (.ldc 38, 2) := by decide +kernel
theorem dX6_hat_25 : decode cX6_hat 25 = .ok (.invokevirtual 40, 3) := by decide +kernel
theorem dX6_hat_28 : decode cX6_hat 28 = .ok (.ireturn, 1) := by decide +kernel
theorem dX6_hat_29 : decode cX6_hat 29 = .ok (.aload_n 0, 1) := by decide +kernel
theorem dX6_hat_30 : decode cX6_hat 30 = .ok (.getfield 9, 3) := by decide +kernel
theorem dX6_hat_33 : decode cX6_hat 33 = .ok (.iconst 3, 1) := by decide +kernel
theorem dX6_hat_34 : decode cX6_hat 34 = .ok (.iaload, 1) := by decide +kernel
theorem dX6_hat_35 : decode cX6_hat 35 = .ok (.bipush 10, 2) := by decide +kernel
theorem dX6_hat_37 : decode cX6_hat 37 = .ok (.if_icmp .ne 12, 3) := by decide +kernel
theorem dX6_hat_40 : decode cX6_hat 40 = .ok (.aload_n 0, 1) := by decide +kernel
theorem dX6_hat_41 : decode cX6_hat 41 = .ok (.ldc 78, 2) := by decide +kernel
theorem dX6_hat_43 : decode cX6_hat 43 = .ok (.invokevirtual 40, 3) := by decide +kernel
theorem dX6_hat_46 : decode cX6_hat 46 = .ok (.goto 12, 3) := by decide +kernel
theorem dX6_hat_49 : decode cX6_hat 49 = .ok (.aload_n 0, 1) := by decide +kernel
theorem dX6_hat_50 : decode cX6_hat 50 = .ok (.iload_n 1, 1) := by decide +kernel
theorem dX6_hat_51 : decode cX6_hat 51 = .ok (.iload_n 2, 1) := by decide +kernel
theorem dX6_hat_52 : decode cX6_hat 52 = .ok (.bipush 50, 2) := by decide +kernel
theorem dX6_hat_54 : decode cX6_hat 54 = .ok (.iconst 1, 1) := by decide +kernel
theorem dX6_hat_55 : decode cX6_hat 55 = .ok (.invokevirtual 79, 3) := by decide +kernel
theorem dX6_hat_58 : decode cX6_hat 58 = .ok (.ireturn, 1) := by decide +kernel
theorem dX6_of_0 : decode cX6_of 0 = .ok (.aload_n 0, 1) := by decide +kernel
theorem dX6_of_1 : decode cX6_of 1 = .ok (.iload_n 1, 1) := by decide +kernel
theorem dX6_of_2 : decode cX6_of 2 = .ok (.invokevirtual 83, 3) := by decide +kernel
theorem dX6_of_5 : decode cX6_of 5 = .ok (.ifCond .eq 14, 3) := by decide +kernel
theorem dX6_of_8 : decode cX6_of 8 = .ok (.iload_n 2, 1) := by decide +kernel
theorem dX6_of_9 : decode cX6_of 9 = .ok (.i2l, 1) := by decide +kernel
theorem dX6_of_10 : decode cX6_of 10 = .ok (.iconst 0, 1) := by decide +kernel
theorem dX6_of_11 : decode cX6_of 11 = .ok (.bipush 8, 2) := by decide +kernel
theorem dX6_of_13 : decode cX6_of 13 = .ok (.invokestatic 44, 3) := by decide +kernel
theorem dX6_of_16 : decode cX6_of 16 = .ok (.ifCond .ne 10, 3) := by decide +kernel
theorem dX6_of_19 : decode cX6_of 19 = .ok (.aload_n 0, 1) := by decide +kernel
theorem dX6_of_20 : decode cX6_of 20 = .ok (.ldc 38, 2) := by decide +kernel
theorem dX6_of_22 : decode cX6_of 22 = .ok (.invokevirtual 40, 3) := by decide +kernel
theorem dX6_of_25 : decode cX6_of 25 = .ok (.ireturn, 1) := by decide +kernel
theorem dX6_of_26 : decode cX6_of 26 = .ok (.iload_n 2, 1) := by decide +kernel
theorem dX6_of_27 : decode cX6_of 27 = .ok (.tableswitch 51 6 8 #[25, 31, 45], 25) := by decide +kernel
theorem dX6_of_52 : decode cX6_of 52 = .ok (.aload_n 0, 1) := by decide +kernel
theorem dX6_of_53 : decode cX6_of 53 = .ok (.iload_n 1, 1) := by decide +kernel
theorem dX6_of_54 : decode cX6_of 54 = .ok (.invokevirtual 58, 3) := by decide +kernel
theorem dX6_of_57 : decode cX6_of 57 = .ok (.ireturn, 1) := by decide +kernel
theorem dX6_of_58 : decode cX6_of 58 = .ok (.aload_n 0, 1) := by decide +kernel
theorem dX6_of_59 : decode cX6_of 59 = .ok (.iload_n 1, 1) := by decide +kernel
theorem dX6_of_60 : decode cX6_of 60 = .ok (.invokevirtual 87, 3) := by decide +kernel
theorem dX6_of_63 : decode cX6_of 63 = .ok (.ifCond .eq 7, 3) := by decide +kernel
theorem dX6_of_66 : decode cX6_of 66 = .ok (.iconst 1, 1) := by decide +kernel
theorem dX6_of_67 : decode cX6_of 67 = .ok (.goto 4, 3) := by decide +kernel
theorem dX6_of_70 : decode cX6_of 70 = .ok (.iconst 0, 1) := by decide +kernel
theorem dX6_of_71 : decode cX6_of 71 = .ok (.ireturn, 1) := by decide +kernel
theorem dX6_of_72 : decode cX6_of 72 = .ok (.aload_n 0, 1) := by decide +kernel
theorem dX6_of_73 : decode cX6_of 73 = .ok (.iload_n 1, 1) := by decide +kernel
theorem dX6_of_74 : decode cX6_of 74 = .ok (.invokevirtual 90, 3) := by decide +kernel
theorem dX6_of_77 : decode cX6_of 77 = .ok (.ireturn, 1) := by decide +kernel
theorem dX6_of_78 : decode cX6_of 78 = .ok (.aload_n 0, 1) := by decide +kernel
theorem dX6_of_79 : decode cX6_of 79 = .ok (.iload_n 1, 1) := by decide +kernel
theorem dX6_of_80 : decode cX6_of 80 = .ok (.iload_n 2, 1) := by decide +kernel
theorem dX6_of_81 : decode cX6_of 81 = .ok (.invokevirtual 48, 3) := by decide +kernel
theorem dX6_of_84 : decode cX6_of 84 = .ok (.ireturn, 1) := by decide +kernel
theorem dX6_says_0 : decode cX6_says 0 = .ok (.aload_n 0, 1) := by decide +kernel
theorem dX6_says_1 : decode cX6_says 1 = .ok (.iload_n 1, 1) := by decide +kernel
theorem dX6_says_2 : decode cX6_says 2 = .ok (.invokevirtual 83, 3) := by decide +kernel
theorem dX6_says_5 : decode cX6_says 5 = .ok (.ifCond .eq 23, 3) := by decide +kernel
theorem dX6_says_8 : decode cX6_says 8 = .ok (.iload_n 2, 1) := by decide +kernel
theorem dX6_says_9 : decode cX6_says 9 = .ok (.i2l, 1) := by decide +kernel
theorem dX6_says_10 : decode cX6_says 10 = .ok (.iconst 0, 1) := by decide +kernel
theorem dX6_says_11 : decode cX6_says 11 = .ok (.bipush 7, 2) := by decide +kernel
theorem dX6_says_13 : decode cX6_says 13 = .ok (.invokestatic 44, 3) := by decide +kernel
theorem dX6_says_16 : decode cX6_says 16 = .ok (.ifCond .eq 12, 3) := by decide +kernel
theorem dX6_says_19 : decode cX6_says 19 = .ok (.aload_n 0, 1) := by decide +kernel
theorem dX6_says_20 : decode cX6_says 20 = .ok (.iload_n 1, 1) := by decide +kernel
theorem dX6_says_21 : decode cX6_says 21 = .ok (.iload_n 2, 1) := by decide +kernel
theorem dX6_says_22 : decode cX6_says 22 = .ok (.invokevirtual 55, 3) := by decide +kernel
theorem dX6_says_25 : decode cX6_says 25 = .ok (.goto 9, 3) := by decide +kernel
theorem dX6_says_28 : decode cX6_says 28 = .ok (.aload_n 0, 1) := by decide +kernel
theorem dX6_says_29 : decode cX6_says 29 = .ok (.ldc 38, 2) := by decide +kernel
theorem dX6_says_31 : decode cX6_says 31 = .ok (.invokevirtual 40, 3) := by decide +kernel
theorem dX6_says_34 : decode cX6_says 34 = .ok (.ireturn, 1) := by decide +kernel
theorem dX6_mostOf_0 : decode cX6_mostOf 0 = .ok (.iload_n 0, 1) := by decide +kernel
theorem dX6_mostOf_1 : decode cX6_mostOf 1 = .ok (.iconst 1, 1) := by decide +kernel
theorem dX6_mostOf_2 : decode cX6_mostOf 2 = .ok (.if_icmp .ne 9, 3) := by decide +kernel
theorem dX6_mostOf_5 : decode cX6_mostOf 5 = .ok (.sipush 255, 3) := by decide +kernel
theorem dX6_mostOf_8 : decode cX6_mostOf 8 = .ok (.goto 25, 3) := by decide +kernel
theorem dX6_mostOf_11 : decode cX6_mostOf 11 = .ok (.iload_n 0, 1) := by decide +kernel
theorem dX6_mostOf_12 : decode cX6_mostOf 12 = .ok (.iconst 4, 1) := by decide +kernel
theorem dX6_mostOf_13 : decode cX6_mostOf 13 = .ok (.if_icmp .ne 8, 3) := by decide +kernel
theorem dX6_mostOf_16 : decode cX6_mostOf 16 = .ok (.bipush 99, 2) := by decide +kernel
theorem dX6_mostOf_18 : decode cX6_mostOf 18 = .ok (.goto 15, 3) := by decide +kernel
theorem dX6_mostOf_21 : decode cX6_mostOf 21 = .ok (.iload_n 0, 1) := by decide +kernel
theorem dX6_mostOf_22 : decode cX6_mostOf 22 = .ok (.iconst 5, 1) := by decide +kernel
theorem dX6_mostOf_23 : decode cX6_mostOf 23 = .ok (.if_icmp .ne 7, 3) := by decide +kernel
theorem dX6_mostOf_26 : decode cX6_mostOf 26 = .ok (.iconst 1, 1) := by decide +kernel
theorem dX6_mostOf_27 : decode cX6_mostOf 27 = .ok (.goto 6, 3) := by decide +kernel
theorem dX6_mostOf_30 : decode cX6_mostOf 30 = .ok (.sipush 9999, 3) := by decide +kernel
theorem dX6_mostOf_33 : decode cX6_mostOf 33 = .ok (.ireturn, 1) := by decide +kernel
theorem dX6_set_0 : decode cX6_set 0 = .ok (.aload_n 0, 1) := by decide +kernel
theorem dX6_set_1 : decode cX6_set 1 = .ok (.iload_n 1, 1) := by decide +kernel
theorem dX6_set_2 : decode cX6_set 2 = .ok (.invokevirtual 83, 3) := by decide +kernel
theorem dX6_set_5 : decode cX6_set 5 = .ok (.ifCond .eq 30, 3) := by decide +kernel
theorem dX6_set_8 : decode cX6_set 8 = .ok (.iload_n 2, 1) := by decide +kernel
theorem dX6_set_9 : decode cX6_set 9 = .ok (.i2l, 1) := by decide +kernel
theorem dX6_set_10 : decode cX6_set 10 = .ok (.iconst 1, 1) := by decide +kernel
theorem dX6_set_11 : decode cX6_set 11 = .ok (.iconst 5, 1) := by decide +kernel
theorem dX6_set_12 : decode cX6_set 12 = .ok (.invokestatic 44, 3) := by decide +kernel
theorem dX6_set_15 : decode cX6_set 15 = .ok (.ifCond .eq 20, 3) := by decide +kernel
theorem dX6_set_18 : decode cX6_set 18 = .ok (.iload_n 3, 1) := by decide +kernel
theorem dX6_set_19 : decode cX6_set 19 = .ok (.i2l, 1) := by decide +kernel
theorem dX6_set_20 : decode cX6_set 20 = .ok (.iconst 0, 1) := by decide +kernel
theorem dX6_set_21 : decode cX6_set 21 = .ok (.iload_n 2, 1) := by decide +kernel
theorem dX6_set_22 : decode cX6_set 22 = .ok (.invokestatic 93, 3) := by decide +kernel
theorem dX6_set_25 : decode cX6_set 25 = .ok (.invokestatic 44, 3) := by decide +kernel
theorem dX6_set_28 : decode cX6_set 28 = .ok (.ifCond .eq 7, 3) := by decide +kernel
theorem dX6_set_31 : decode cX6_set 31 = .ok (.iconst 1, 1) := by decide +kernel
theorem dX6_set_32 : decode cX6_set 32 = .ok (.goto 4, 3) := by decide +kernel
theorem dX6_set_35 : decode cX6_set 35 = .ok (.iconst 0, 1) := by decide +kernel
theorem dX6_set_36 : decode cX6_set 36 = .ok (.istore 4, 2) := by decide +kernel
theorem dX6_set_38 : decode cX6_set 38 = .ok (.iload 4, 2) := by decide +kernel
theorem dX6_set_40 : decode cX6_set 40 = .ok (.ifCond .eq 19, 3) := by decide +kernel
theorem dX6_set_43 : decode cX6_set 43 = .ok (.aload_n 0, 1) := by decide +kernel
theorem dX6_set_44 : decode cX6_set 44 = .ok (.iconst 4, 1) := by decide +kernel
theorem dX6_set_45 : decode cX6_set 45 = .ok (.bipush 6, 2) := by decide +kernel
theorem dX6_set_47 : decode cX6_set 47 = .ok (.iload_n 1, 1) := by decide +kernel
theorem dX6_set_48 : decode cX6_set 48 = .ok (.imul, 1) := by decide +kernel
theorem dX6_set_49 : decode cX6_set 49 = .ok (.iadd, 1) := by decide +kernel
theorem dX6_set_50 : decode cX6_set 50 = .ok (.iload_n 2, 1) := by decide +kernel
theorem dX6_set_51 : decode cX6_set 51 = .ok (.iadd, 1) := by decide +kernel
theorem dX6_set_52 : decode cX6_set 52 = .ok (.iload_n 3, 1) := by decide +kernel
theorem dX6_set_53 : decode cX6_set 53 = .ok (.invokevirtual 52, 3) := by decide +kernel
theorem dX6_set_56 : decode cX6_set 56 = .ok (.goto 9, 3) := by decide +kernel
theorem dX6_set_59 : decode cX6_set 59 = .ok (.aload_n 0, 1) := by decide +kernel
theorem dX6_set_60 : decode cX6_set 60 = .ok (.ldc 38, 2) := by decide +kernel
theorem dX6_set_62 : decode cX6_set 62 = .ok (.invokevirtual 40, 3) := by decide +kernel
theorem dX6_set_65 : decode cX6_set 65 = .ok (.ireturn, 1) := by decide +kernel
theorem dX6_turn_0 : decode cX6_turn 0 = .ok (.aload_n 0, 1) := by decide +kernel
theorem dX6_turn_1 : decode cX6_turn 1 = .ok (.iload_n 1, 1) := by decide +kernel
theorem dX6_turn_2 : decode cX6_turn 2 = .ok (.invokevirtual 83, 3) := by decide +kernel
theorem dX6_turn_5 : decode cX6_turn 5 = .ok (.ifCond .eq 27, 3) := by decide +kernel
theorem dX6_turn_8 : decode cX6_turn 8 = .ok (.iload_n 2, 1) := by decide +kernel
theorem dX6_turn_9 : decode cX6_turn 9 = .ok (.i2l, 1) := by decide +kernel
theorem dX6_turn_10 : decode cX6_turn 10 = .ok (.iconst 0, 1) := by decide +kernel
theorem dX6_turn_11 : decode cX6_turn 11 = .ok (.iconst 5, 1) := by decide +kernel
theorem dX6_turn_12 : decode cX6_turn 12 = .ok (.invokestatic 44, 3) := by decide +kernel
theorem dX6_turn_15 : decode cX6_turn 15 = .ok (.ifCond .eq 17, 3) := by decide +kernel
theorem dX6_turn_18 : decode cX6_turn 18 = .ok (.aload_n 0, 1) := by decide +kernel
theorem dX6_turn_19 : decode cX6_turn 19 = .ok (.iconst 4, 1) := by decide +kernel
theorem dX6_turn_20 : decode cX6_turn 20 = .ok (.bipush 6, 2) := by decide +kernel
theorem dX6_turn_22 : decode cX6_turn 22 = .ok (.iload_n 1, 1) := by decide +kernel
theorem dX6_turn_23 : decode cX6_turn 23 = .ok (.imul, 1) := by decide +kernel
theorem dX6_turn_24 : decode cX6_turn 24 = .ok (.iadd, 1) := by decide +kernel
theorem dX6_turn_25 : decode cX6_turn 25 = .ok (.iload_n 2, 1) := by decide +kernel
theorem dX6_turn_26 : decode cX6_turn 26 = .ok (.invokevirtual 52, 3) := by decide +kernel
theorem dX6_turn_29 : decode cX6_turn 29 = .ok (.goto 9, 3) := by decide +kernel
theorem dX6_turn_32 : decode cX6_turn 32 = .ok (.aload_n 0, 1) := by decide +kernel
theorem dX6_turn_33 : decode cX6_turn 33 = .ok (.ldc 38, 2) := by decide +kernel
theorem dX6_turn_35 : decode cX6_turn 35 = .ok (.invokevirtual 40, 3) := by decide +kernel
theorem dX6_turn_38 : decode cX6_turn 38 = .ok (.ireturn, 1) := by decide +kernel
theorem dX6_as_0 : decode cX6_as 0 = .ok (.aload_n 0, 1) := by decide +kernel
theorem dX6_as_1 : decode cX6_as 1 = .ok (.iload_n 1, 1) := by decide +kernel
theorem dX6_as_2 : decode cX6_as 2 = .ok (.invokevirtual 83, 3) := by decide +kernel
theorem dX6_as_5 : decode cX6_as 5 = .ok (.ifCond .eq 13, 3) := by decide +kernel
theorem dX6_as_8 : decode cX6_as 8 = .ok (.iload_n 2, 1) := by decide +kernel
theorem dX6_as_9 : decode cX6_as 9 = .ok (.i2l, 1) := by decide +kernel
theorem dX6_as_10 : decode cX6_as 10 = .ok (.iconst 0, 1) := by decide +kernel
theorem dX6_as_11 : decode cX6_as 11 = .ok (.iconst 5, 1) := by decide +kernel
theorem dX6_as_12 : decode cX6_as 12 = .ok (.invokestatic 44, 3) := by decide +kernel
theorem dX6_as_15 : decode cX6_as 15 = .ok (.ifCond .ne 10, 3) := by decide +kernel
theorem dX6_as_18 : decode cX6_as 18 = .ok (.aload_n 0, 1) := by decide +kernel
theorem dX6_as_19 : decode cX6_as 19 = .ok (.ldc 38, 2) := by decide +kernel
theorem dX6_as_21 : decode cX6_as 21 = .ok (.invokevirtual 40, 3) := by decide +kernel
theorem dX6_as_24 : decode cX6_as 24 = .ok (.ireturn, 1) := by decide +kernel
theorem dX6_as_25 : decode cX6_as 25 = .ok (.aload_n 0, 1) := by decide +kernel
theorem dX6_as_26 : decode cX6_as 26 = .ok (.iload_n 1, 1) := by decide +kernel
theorem dX6_as_27 : decode cX6_as 27 = .ok (.iconst 0, 1) := by decide +kernel
theorem dX6_as_28 : decode cX6_as 28 = .ok (.invokevirtual 48, 3) := by decide +kernel
theorem dX6_as_31 : decode cX6_as 31 = .ok (.istore_n 3, 1) := by decide +kernel
theorem dX6_as_32 : decode cX6_as 32 = .ok (.iload_n 2, 1) := by decide +kernel
theorem dX6_as_33 : decode cX6_as 33 = .ok (.ifCond .eq 28, 3) := by decide +kernel
theorem dX6_as_36 : decode cX6_as 36 = .ok (.iload_n 2, 1) := by decide +kernel
theorem dX6_as_37 : decode cX6_as 37 = .ok (.iload_n 3, 1) := by decide +kernel
theorem dX6_as_38 : decode cX6_as 38 = .ok (.if_icmp .eq 23, 3) := by decide +kernel
theorem dX6_as_41 : decode cX6_as 41 = .ok (.iload_n 2, 1) := by decide +kernel
theorem dX6_as_42 : decode cX6_as 42 = .ok (.iconst 1, 1) := by decide +kernel
theorem dX6_as_43 : decode cX6_as 43 = .ok (.if_icmp .ne 8, 3) := by decide +kernel
theorem dX6_as_46 : decode cX6_as 46 = .ok (.iload_n 3, 1) := by decide +kernel
theorem dX6_as_47 : decode cX6_as 47 = .ok (.iconst 4, 1) := by decide +kernel
theorem dX6_as_48 : decode cX6_as 48 = .ok (.if_icmp .eq 13, 3) := by decide +kernel
theorem dX6_as_51 : decode cX6_as 51 = .ok (.iload_n 2, 1) := by decide +kernel
theorem dX6_as_52 : decode cX6_as 52 = .ok (.iconst 2, 1) := by decide +kernel
theorem dX6_as_53 : decode cX6_as 53 = .ok (.if_icmp .ne 12, 3) := by decide +kernel
theorem dX6_as_56 : decode cX6_as 56 = .ok (.iload_n 3, 1) := by decide +kernel
theorem dX6_as_57 : decode cX6_as 57 = .ok (.iconst 5, 1) := by decide +kernel
theorem dX6_as_58 : decode cX6_as 58 = .ok (.if_icmp .ne 7, 3) := by decide +kernel
theorem dX6_as_61 : decode cX6_as 61 = .ok (.iconst 1, 1) := by decide +kernel
theorem dX6_as_62 : decode cX6_as 62 = .ok (.goto 4, 3) := by decide +kernel
theorem dX6_as_65 : decode cX6_as 65 = .ok (.iconst 0, 1) := by decide +kernel
theorem dX6_as_66 : decode cX6_as 66 = .ok (.istore 4, 2) := by decide +kernel
theorem dX6_as_68 : decode cX6_as 68 = .ok (.iload 4, 2) := by decide +kernel
theorem dX6_as_70 : decode cX6_as 70 = .ok (.ifCond .eq 12, 3) := by decide +kernel
theorem dX6_as_73 : decode cX6_as 73 = .ok (.aload_n 0, 1) := by decide +kernel
theorem dX6_as_74 : decode cX6_as 74 = .ok (.iload_n 1, 1) := by decide +kernel
theorem dX6_as_75 : decode cX6_as 75 = .ok (.iconst 1, 1) := by decide +kernel
theorem dX6_as_76 : decode cX6_as 76 = .ok (.invokevirtual 48, 3) := by decide +kernel
theorem dX6_as_79 : decode cX6_as 79 = .ok (.goto 9, 3) := by decide +kernel
theorem dX6_as_82 : decode cX6_as 82 = .ok (.aload_n 0, 1) := by decide +kernel
theorem dX6_as_83 : decode cX6_as 83 = .ok (.ldc 96, 2) := by decide +kernel
theorem dX6_as_85 : decode cX6_as 85 = .ok (.invokevirtual 40, 3) := by decide +kernel
theorem dX6_as_88 : decode cX6_as 88 = .ok (.ireturn, 1) := by decide +kernel
theorem dX6_withBit_0 : decode cX6_withBit 0 = .ok (.iload_n 2, 1) := by decide +kernel
theorem dX6_withBit_1 : decode cX6_withBit 1 = .ok (.iconst 1, 1) := by decide +kernel
theorem dX6_withBit_2 : decode cX6_withBit 2 = .ok (.if_icmp .ne 11, 3) := by decide +kernel
theorem dX6_withBit_5 : decode cX6_withBit 5 = .ok (.iload_n 0, 1) := by decide +kernel
theorem dX6_withBit_6 : decode cX6_withBit 6 = .ok (.iconst 1, 1) := by decide +kernel
theorem dX6_withBit_7 : decode cX6_withBit 7 = .ok (.iload_n 1, 1) := by decide +kernel
theorem dX6_withBit_8 : decode cX6_withBit 8 = .ok (.ishl, 1) := by decide +kernel
theorem dX6_withBit_9 : decode cX6_withBit 9 = .ok (.ior, 1) := by decide +kernel
theorem dX6_withBit_10 : decode cX6_withBit 10 = .ok (.goto 10, 3) := by decide +kernel
theorem dX6_withBit_13 : decode cX6_withBit 13 = .ok (.iload_n 0, 1) := by decide +kernel
theorem dX6_withBit_14 : decode cX6_withBit 14 = .ok (.iconst 1, 1) := by decide +kernel
theorem dX6_withBit_15 : decode cX6_withBit 15 = .ok (.iload_n 1, 1) := by decide +kernel
theorem dX6_withBit_16 : decode cX6_withBit 16 = .ok (.ishl, 1) := by decide +kernel
theorem dX6_withBit_17 : decode cX6_withBit 17 = .ok (.iconst (-1), 1) := by decide +kernel
theorem dX6_withBit_18 : decode cX6_withBit 18 = .ok (.ixor, 1) := by decide +kernel
theorem dX6_withBit_19 : decode cX6_withBit 19 = .ok (.iand, 1) := by decide +kernel
theorem dX6_withBit_20 : decode cX6_withBit 20 = .ok (.ireturn, 1) := by decide +kernel
theorem dX6_isJudged_0 : decode cX6_isJudged 0 = .ok (.aload_n 0, 1) := by decide +kernel
theorem dX6_isJudged_1 : decode cX6_isJudged 1 = .ok (.getfield 22, 3) := by decide +kernel
theorem dX6_isJudged_4 : decode cX6_isJudged 4 = .ok (.iload_n 1, 1) := by decide +kernel
theorem dX6_isJudged_5 : decode cX6_isJudged 5 = .ok (.iaload, 1) := by decide +kernel
theorem dX6_isJudged_6 : decode cX6_isJudged 6 = .ok (.iload_n 3, 1) := by decide +kernel
theorem dX6_isJudged_7 : decode cX6_isJudged 7 = .ok (.if_icmp .ne 51, 3) := by decide +kernel
theorem dX6_isJudged_10 : decode cX6_isJudged 10 = .ok (.aload_n 0, 1) := by decide +kernel
theorem dX6_isJudged_11 : decode cX6_isJudged 11 = .ok (.iload_n 1, 1) := by decide +kernel
theorem dX6_isJudged_12 : decode cX6_isJudged 12 = .ok (.iconst 2, 1) := by decide +kernel
theorem dX6_isJudged_13 : decode cX6_isJudged 13 = .ok (.aload_n 0, 1) := by decide +kernel
theorem dX6_isJudged_14 : decode cX6_isJudged 14 = .ok (.iload_n 1, 1) := by decide +kernel
theorem dX6_isJudged_15 : decode cX6_isJudged 15 = .ok (.iconst 2, 1) := by decide +kernel
theorem dX6_isJudged_16 : decode cX6_isJudged 16 = .ok (.invokevirtual 48, 3) := by decide +kernel
theorem dX6_isJudged_19 : decode cX6_isJudged 19 = .ok (.iconst 1, 1) := by decide +kernel
theorem dX6_isJudged_20 : decode cX6_isJudged 20 = .ok (.iadd, 1) := by decide +kernel
theorem dX6_isJudged_21 : decode cX6_isJudged 21 = .ok (.iconst 0, 1) := by decide +kernel
theorem dX6_isJudged_22 : decode cX6_isJudged 22 = .ok (.sipush 9999, 3) := by decide +kernel
theorem dX6_isJudged_25 : decode cX6_isJudged 25 = .ok (.invokestatic 97, 3) := by decide +kernel
theorem dX6_isJudged_28 : decode cX6_isJudged 28 = .ok (.invokevirtual 74, 3) := by decide +kernel
theorem dX6_isJudged_31 : decode cX6_isJudged 31 = .ok (.aload_n 0, 1) := by decide +kernel
theorem dX6_isJudged_32 : decode cX6_isJudged 32 = .ok (.iload_n 1, 1) := by decide +kernel
theorem dX6_isJudged_33 : decode cX6_isJudged 33 = .ok (.iconst 4, 1) := by decide +kernel
theorem dX6_isJudged_34 : decode cX6_isJudged 34 = .ok (.aload_n 0, 1) := by decide +kernel
theorem dX6_isJudged_35 : decode cX6_isJudged 35 = .ok (.iload_n 1, 1) := by decide +kernel
theorem dX6_isJudged_36 : decode cX6_isJudged 36 = .ok (.iconst 4, 1) := by decide +kernel
theorem dX6_isJudged_37 : decode cX6_isJudged 37 = .ok (.invokevirtual 48, 3) := by decide +kernel
theorem dX6_isJudged_40 : decode cX6_isJudged 40 = .ok (.aload_n 0, 1) := by decide +kernel
theorem dX6_isJudged_41 : decode cX6_isJudged 41 = .ok (.iload_n 1, 1) := by decide +kernel
theorem dX6_isJudged_42 : decode cX6_isJudged 42 = .ok (.invokevirtual 90, 3) := by decide +kernel
theorem dX6_isJudged_45 : decode cX6_isJudged 45 = .ok (.iadd, 1) := by decide +kernel
theorem dX6_isJudged_46 : decode cX6_isJudged 46 = .ok (.iconst 0, 1) := by decide +kernel
theorem dX6_isJudged_47 : decode cX6_isJudged 47 = .ok (.bipush 99, 2) := by decide +kernel
theorem dX6_isJudged_49 : decode cX6_isJudged 49 = .ok (.invokestatic 97, 3) := by decide +kernel
theorem dX6_isJudged_52 : decode cX6_isJudged 52 = .ok (.invokevirtual 74, 3) := by decide +kernel
theorem dX6_isJudged_55 : decode cX6_isJudged 55 = .ok (.goto 82, 3) := by decide +kernel
theorem dX6_isJudged_58 : decode cX6_isJudged 58 = .ok (.aload_n 0, 1) := by decide +kernel
theorem dX6_isJudged_59 : decode cX6_isJudged 59 = .ok (.iload_n 1, 1) := by decide +kernel
theorem dX6_isJudged_60 : decode cX6_isJudged 60 = .ok (.iconst 1, 1) := by decide +kernel
theorem dX6_isJudged_61 : decode cX6_isJudged 61 = .ok (.aload_n 0, 1) := by decide +kernel
theorem dX6_isJudged_62 : decode cX6_isJudged 62 = .ok (.iload_n 1, 1) := by decide +kernel
theorem dX6_isJudged_63 : decode cX6_isJudged 63 = .ok (.invokevirtual 87, 3) := by decide +kernel
theorem dX6_isJudged_66 : decode cX6_isJudged 66 = .ok (.ifCond .eq 17, 3) := by decide +kernel
theorem dX6_isJudged_69 : decode cX6_isJudged 69 = .ok (.aload_n 0, 1) := by decide +kernel
theorem dX6_isJudged_70 : decode cX6_isJudged 70 = .ok (.iload_n 1, 1) := by decide +kernel
theorem dX6_isJudged_71 : decode cX6_isJudged 71 = .ok (.iconst 1, 1) := by decide +kernel
theorem dX6_isJudged_72 : decode cX6_isJudged 72 = .ok (.invokevirtual 48, 3) := by decide +kernel
theorem dX6_isJudged_75 : decode cX6_isJudged 75 = .ok (.iload_n 2, 1) := by decide +kernel
theorem dX6_isJudged_76 : decode cX6_isJudged 76 = .ok (.iload_n 3, 1) := by decide +kernel
theorem dX6_isJudged_77 : decode cX6_isJudged 77 = .ok (.invokestatic 101, 3) := by decide +kernel
theorem dX6_isJudged_80 : decode cX6_isJudged 80 = .ok (.goto 9, 3) := by decide +kernel
theorem dX6_isJudged_83 : decode cX6_isJudged 83 = .ok (.aload_n 0, 1) := by decide +kernel
theorem dX6_isJudged_84 : decode cX6_isJudged 84 = .ok (.iload_n 1, 1) := by decide +kernel
theorem dX6_isJudged_85 : decode cX6_isJudged 85 = .ok (.iconst 1, 1) := by decide +kernel
theorem dX6_isJudged_86 : decode cX6_isJudged 86 = .ok (.invokevirtual 48, 3) := by decide +kernel
theorem dX6_isJudged_89 : decode cX6_isJudged 89 = .ok (.invokevirtual 74, 3) := by decide +kernel
theorem dX6_isJudged_92 : decode cX6_isJudged 92 = .ok (.aload_n 0, 1) := by decide +kernel
theorem dX6_isJudged_93 : decode cX6_isJudged 93 = .ok (.iload_n 1, 1) := by decide +kernel
theorem dX6_isJudged_94 : decode cX6_isJudged 94 = .ok (.iconst 3, 1) := by decide +kernel
theorem dX6_isJudged_95 : decode cX6_isJudged 95 = .ok (.aload_n 0, 1) := by decide +kernel
theorem dX6_isJudged_96 : decode cX6_isJudged 96 = .ok (.iload_n 1, 1) := by decide +kernel
theorem dX6_isJudged_97 : decode cX6_isJudged 97 = .ok (.iconst 3, 1) := by decide +kernel
theorem dX6_isJudged_98 : decode cX6_isJudged 98 = .ok (.invokevirtual 48, 3) := by decide +kernel
theorem dX6_isJudged_101 : decode cX6_isJudged 101 = .ok (.iconst 1, 1) := by decide +kernel
theorem dX6_isJudged_102 : decode cX6_isJudged 102 = .ok (.iadd, 1) := by decide +kernel
theorem dX6_isJudged_103 : decode cX6_isJudged 103 = .ok (.iconst 0, 1) := by decide +kernel
theorem dX6_isJudged_104 : decode cX6_isJudged 104 = .ok (.sipush 9999, 3) := by decide +kernel
theorem dX6_isJudged_107 : decode cX6_isJudged 107 = .ok (.invokestatic 97, 3) := by decide +kernel
theorem dX6_isJudged_110 : decode cX6_isJudged 110 = .ok (.invokevirtual 74, 3) := by decide +kernel
theorem dX6_isJudged_113 : decode cX6_isJudged 113 = .ok (.aload_n 0, 1) := by decide +kernel
theorem dX6_isJudged_114 : decode cX6_isJudged 114 = .ok (.iload_n 1, 1) := by decide +kernel
theorem dX6_isJudged_115 : decode cX6_isJudged 115 = .ok (.iconst 4, 1) := by decide +kernel
theorem dX6_isJudged_116 : decode cX6_isJudged 116 = .ok (.aload_n 0, 1) := by decide +kernel
theorem dX6_isJudged_117 : decode cX6_isJudged 117 = .ok (.iload_n 1, 1) := by decide +kernel
theorem dX6_isJudged_118 : decode cX6_isJudged 118 = .ok (.iconst 4, 1) := by decide +kernel
theorem dX6_isJudged_119 : decode cX6_isJudged 119 = .ok (.invokevirtual 48, 3) := by decide +kernel
theorem dX6_isJudged_122 : decode cX6_isJudged 122 = .ok (.aload_n 0, 1) := by decide +kernel
theorem dX6_isJudged_123 : decode cX6_isJudged 123 = .ok (.iload_n 1, 1) := by decide +kernel
theorem dX6_isJudged_124 : decode cX6_isJudged 124 = .ok (.invokevirtual 90, 3) := by decide +kernel
theorem dX6_isJudged_127 : decode cX6_isJudged 127 = .ok (.isub, 1) := by decide +kernel
theorem dX6_isJudged_128 : decode cX6_isJudged 128 = .ok (.iconst 0, 1) := by decide +kernel
theorem dX6_isJudged_129 : decode cX6_isJudged 129 = .ok (.bipush 99, 2) := by decide +kernel
theorem dX6_isJudged_131 : decode cX6_isJudged 131 = .ok (.invokestatic 97, 3) := by decide +kernel
theorem dX6_isJudged_134 : decode cX6_isJudged 134 = .ok (.invokevirtual 74, 3) := by decide +kernel
theorem dX6_isJudged_137 : decode cX6_isJudged 137 = .ok (.return_, 1) := by decide +kernel
theorem dX6_goes_0 : decode cX6_goes 0 = .ok (.aload_n 0, 1) := by decide +kernel
theorem dX6_goes_1 : decode cX6_goes 1 = .ok (.invokevirtual 61, 3) := by decide +kernel
theorem dX6_goes_4 : decode cX6_goes 4 = .ok (.istore_n 1, 1) := by decide +kernel
theorem dX6_goes_5 : decode cX6_goes 5 = .ok (.aload_n 0, 1) := by decide +kernel
theorem dX6_goes_6 : decode cX6_goes 6 = .ok (.iload_n 1, 1) := by decide +kernel
theorem dX6_goes_7 : decode cX6_goes 7 = .ok (.iconst 1, 1) := by decide +kernel
theorem dX6_goes_8 : decode cX6_goes 8 = .ok (.invokevirtual 65, 3) := by decide +kernel
theorem dX6_goes_11 : decode cX6_goes 11 = .ok (.istore_n 2, 1) := by decide +kernel
theorem dX6_goes_12 : decode cX6_goes 12 = .ok (.aload_n 0, 1) := by decide +kernel
theorem dX6_goes_13 : decode cX6_goes 13 = .ok (.iload_n 1, 1) := by decide +kernel
theorem dX6_goes_14 : decode cX6_goes 14 = .ok (.iconst 0, 1) := by decide +kernel
theorem dX6_goes_15 : decode cX6_goes 15 = .ok (.invokevirtual 65, 3) := by decide +kernel
theorem dX6_goes_18 : decode cX6_goes 18 = .ok (.istore_n 3, 1) := by decide +kernel
theorem dX6_goes_19 : decode cX6_goes 19 = .ok (.iconst 0, 1) := by decide +kernel
theorem dX6_goes_20 : decode cX6_goes 20 = .ok (.istore 4, 2) := by decide +kernel
theorem dX6_goes_22 : decode cX6_goes 22 = .ok (.iload 4, 2) := by decide +kernel
theorem dX6_goes_24 : decode cX6_goes 24 = .ok (.aload_n 0, 1) := by decide +kernel
theorem dX6_goes_25 : decode cX6_goes 25 = .ok (.getfield 9, 3) := by decide +kernel
theorem dX6_goes_28 : decode cX6_goes 28 = .ok (.iconst 3, 1) := by decide +kernel
theorem dX6_goes_29 : decode cX6_goes 29 = .ok (.iaload, 1) := by decide +kernel
theorem dX6_goes_30 : decode cX6_goes 30 = .ok (.if_icmp .ge 38, 3) := by decide +kernel
theorem dX6_goes_33 : decode cX6_goes 33 = .ok (.aload_n 0, 1) := by decide +kernel
theorem dX6_goes_34 : decode cX6_goes 34 = .ok (.getfield 22, 3) := by decide +kernel
theorem dX6_goes_37 : decode cX6_goes 37 = .ok (.iload 4, 2) := by decide +kernel
theorem dX6_goes_39 : decode cX6_goes 39 = .ok (.aload_n 0, 1) := by decide +kernel
theorem dX6_goes_40 : decode cX6_goes 40 = .ok (.iload 4, 2) := by decide +kernel
theorem dX6_goes_42 : decode cX6_goes 42 = .ok (.iconst 5, 1) := by decide +kernel
theorem dX6_goes_43 : decode cX6_goes 43 = .ok (.invokevirtual 48, 3) := by decide +kernel
theorem dX6_goes_46 : decode cX6_goes 46 = .ok (.iconst 1, 1) := by decide +kernel
theorem dX6_goes_47 : decode cX6_goes 47 = .ok (.if_icmp .ne 13, 3) := by decide +kernel
theorem dX6_goes_50 : decode cX6_goes 50 = .ok (.aload_n 0, 1) := by decide +kernel
theorem dX6_goes_51 : decode cX6_goes 51 = .ok (.iload 4, 2) := by decide +kernel
theorem dX6_goes_53 : decode cX6_goes 53 = .ok (.iload_n 1, 1) := by decide +kernel
theorem dX6_goes_54 : decode cX6_goes 54 = .ok (.invokevirtual 55, 3) := by decide +kernel
theorem dX6_goes_57 : decode cX6_goes 57 = .ok (.goto 4, 3) := by decide +kernel
theorem dX6_goes_60 : decode cX6_goes 60 = .ok (.iconst (-1), 1) := by decide +kernel
theorem dX6_goes_61 : decode cX6_goes 61 = .ok (.iastore, 1) := by decide +kernel
theorem dX6_goes_62 : decode cX6_goes 62 = .ok (.iinc 4 1, 3) := by decide +kernel
theorem dX6_goes_65 : decode cX6_goes 65 = .ok (.goto (-43), 3) := by decide +kernel
theorem dX6_goes_68 : decode cX6_goes 68 = .ok (.aload_n 0, 1) := by decide +kernel
theorem dX6_goes_69 : decode cX6_goes 69 = .ok (.getfield 9, 3) := by decide +kernel
theorem dX6_goes_72 : decode cX6_goes 72 = .ok (.iconst 2, 1) := by decide +kernel
theorem dX6_goes_73 : decode cX6_goes 73 = .ok (.iload_n 2, 1) := by decide +kernel
theorem dX6_goes_74 : decode cX6_goes 74 = .ok (.iload_n 3, 1) := by decide +kernel
theorem dX6_goes_75 : decode cX6_goes 75 = .ok (.if_icmp .ne 12, 3) := by decide +kernel
theorem dX6_goes_78 : decode cX6_goes 78 = .ok (.aload_n 0, 1) := by decide +kernel
theorem dX6_goes_79 : decode cX6_goes 79 = .ok (.getfield 9, 3) := by decide +kernel
theorem dX6_goes_82 : decode cX6_goes 82 = .ok (.iconst 2, 1) := by decide +kernel
theorem dX6_goes_83 : decode cX6_goes 83 = .ok (.iaload, 1) := by decide +kernel
theorem dX6_goes_84 : decode cX6_goes 84 = .ok (.goto 23, 3) := by decide +kernel
theorem dX6_goes_87 : decode cX6_goes 87 = .ok (.aload_n 0, 1) := by decide +kernel
theorem dX6_goes_88 : decode cX6_goes 88 = .ok (.getfield 9, 3) := by decide +kernel
theorem dX6_goes_91 : decode cX6_goes 91 = .ok (.iconst 2, 1) := by decide +kernel
theorem dX6_goes_92 : decode cX6_goes 92 = .ok (.iaload, 1) := by decide +kernel
theorem dX6_goes_93 : decode cX6_goes 93 = .ok (.iload_n 1, 1) := by decide +kernel
theorem dX6_goes_94 : decode cX6_goes 94 = .ok (.iload_n 2, 1) := by decide +kernel
theorem dX6_goes_95 : decode cX6_goes 95 = .ok (.iload_n 3, 1) := by decide +kernel
theorem dX6_goes_96 : decode cX6_goes 96 = .ok (.if_icmp .le 7, 3) := by decide +kernel
theorem dX6_goes_99 : decode cX6_goes 99 = .ok (.iconst 1, 1) := by decide +kernel
theorem dX6_goes_100 : decode cX6_goes 100 = .ok (.goto 4, 3) := by decide +kernel
theorem dX6_goes_103 : decode cX6_goes 103 = .ok (.iconst 0, 1) := by decide +kernel
theorem dX6_goes_104 : decode cX6_goes 104 = .ok (.invokestatic 101, 3) := by decide +kernel
theorem dX6_goes_107 : decode cX6_goes 107 = .ok (.iastore, 1) := by decide +kernel
theorem dX6_goes_108 : decode cX6_goes 108 = .ok (.iconst 0, 1) := by decide +kernel
theorem dX6_goes_109 : decode cX6_goes 109 = .ok (.istore 4, 2) := by decide +kernel
theorem dX6_goes_111 : decode cX6_goes 111 = .ok (.iload 4, 2) := by decide +kernel
theorem dX6_goes_113 : decode cX6_goes 113 = .ok (.aload_n 0, 1) := by decide +kernel
theorem dX6_goes_114 : decode cX6_goes 114 = .ok (.getfield 9, 3) := by decide +kernel
theorem dX6_goes_117 : decode cX6_goes 117 = .ok (.iconst 3, 1) := by decide +kernel
theorem dX6_goes_118 : decode cX6_goes 118 = .ok (.iaload, 1) := by decide +kernel
theorem dX6_goes_119 : decode cX6_goes 119 = .ok (.if_icmp .ge 36, 3) := by decide +kernel
theorem dX6_goes_122 : decode cX6_goes 122 = .ok (.aload_n 0, 1) := by decide +kernel
theorem dX6_goes_123 : decode cX6_goes 123 = .ok (.getfield 22, 3) := by decide +kernel
theorem dX6_goes_126 : decode cX6_goes 126 = .ok (.iload 4, 2) := by decide +kernel
theorem dX6_goes_128 : decode cX6_goes 128 = .ok (.iaload, 1) := by decide +kernel
theorem dX6_goes_129 : decode cX6_goes 129 = .ok (.ifCond .lt 20, 3) := by decide +kernel
theorem dX6_goes_132 : decode cX6_goes 132 = .ok (.aload_n 0, 1) := by decide +kernel
theorem dX6_goes_133 : decode cX6_goes 133 = .ok (.iload 4, 2) := by decide +kernel
theorem dX6_goes_135 : decode cX6_goes 135 = .ok (.iload_n 1, 1) := by decide +kernel
theorem dX6_goes_136 : decode cX6_goes 136 = .ok (.aload_n 0, 1) := by decide +kernel
theorem dX6_goes_137 : decode cX6_goes 137 = .ok (.getfield 9, 3) := by decide +kernel
theorem dX6_goes_140 : decode cX6_goes 140 = .ok (.iconst 1, 1) := by decide +kernel
theorem dX6_goes_141 : decode cX6_goes 141 = .ok (.iaload, 1) := by decide +kernel
theorem dX6_goes_142 : decode cX6_goes 142 = .ok (.iload_n 1, 1) := by decide +kernel
theorem dX6_goes_143 : decode cX6_goes 143 = .ok (.ishr, 1) := by decide +kernel
theorem dX6_goes_144 : decode cX6_goes 144 = .ok (.iconst 1, 1) := by decide +kernel
theorem dX6_goes_145 : decode cX6_goes 145 = .ok (.iand, 1) := by decide +kernel
theorem dX6_goes_146 : decode cX6_goes 146 = .ok (.invokevirtual 104, 3) := by decide +kernel
theorem dX6_goes_149 : decode cX6_goes 149 = .ok (.iinc 4 1, 3) := by decide +kernel
theorem dX6_goes_152 : decode cX6_goes 152 = .ok (.goto (-41), 3) := by decide +kernel
theorem dX6_goes_155 : decode cX6_goes 155 = .ok (.aload_n 0, 1) := by decide +kernel
theorem dX6_goes_156 : decode cX6_goes 156 = .ok (.getfield 9, 3) := by decide +kernel
theorem dX6_goes_159 : decode cX6_goes 159 = .ok (.iconst 0, 1) := by decide +kernel
theorem dX6_goes_160 : decode cX6_goes 160 = .ok (.dup2, 1) := by decide +kernel
theorem dX6_goes_161 : decode cX6_goes 161 = .ok (.iaload, 1) := by decide +kernel
theorem dX6_goes_162 : decode cX6_goes 162 = .ok (.iconst 1, 1) := by decide +kernel
theorem dX6_goes_163 : decode cX6_goes 163 = .ok (.iadd, 1) := by decide +kernel
theorem dX6_goes_164 : decode cX6_goes 164 = .ok (.iastore, 1) := by decide +kernel
theorem dX6_goes_165 : decode cX6_goes 165 = .ok (.return_, 1) := by decide +kernel
theorem dX6_goesFor_0 : decode cX6_goesFor 0 = .ok (.iconst 0, 1) := by decide +kernel
theorem dX6_goesFor_1 : decode cX6_goesFor 1 = .ok (.istore_n 2, 1) := by decide +kernel
theorem dX6_goesFor_2 : decode cX6_goesFor 2 = .ok (.iload_n 2, 1) := by decide +kernel
theorem dX6_goesFor_3 : decode cX6_goesFor 3 = .ok (.iload_n 1, 1) := by decide +kernel
theorem dX6_goesFor_4 : decode cX6_goesFor 4 = .ok (.if_icmp .ge 13, 3) := by decide +kernel
theorem dX6_goesFor_7 : decode cX6_goesFor 7 = .ok (.aload_n 0, 1) := by decide +kernel
theorem dX6_goesFor_8 : decode cX6_goesFor 8 = .ok (.invokevirtual 107, 3) := by decide +kernel
theorem dX6_goesFor_11 : decode cX6_goesFor 11 = .ok (.iinc 2 1, 3) := by decide +kernel
theorem dX6_goesFor_14 : decode cX6_goesFor 14 = .ok (.goto (-12), 3) := by decide +kernel
theorem dX6_goesFor_17 : decode cX6_goesFor 17 = .ok (.return_, 1) := by decide +kernel
theorem dX6_sessions_0 : decode cX6_sessions 0 = .ok (.iload_n 1, 1) := by decide +kernel
theorem dX6_sessions_1 : decode cX6_sessions 1 = .ok (.i2l, 1) := by decide +kernel
theorem dX6_sessions_2 : decode cX6_sessions 2 = .ok (.iconst 1, 1) := by decide +kernel
theorem dX6_sessions_3 : decode cX6_sessions 3 = .ok (.bipush 100, 2) := by decide +kernel
theorem dX6_sessions_5 : decode cX6_sessions 5 = .ok (.invokestatic 44, 3) := by decide +kernel
theorem dX6_sessions_8 : decode cX6_sessions 8 = .ok (.ifCond .ne 10, 3) := by decide +kernel
theorem dX6_sessions_11 : decode cX6_sessions 11 = .ok (.aload_n 0, 1) := by decide +kernel
theorem dX6_sessions_12 : decode cX6_sessions 12 = .ok (.ldc 38, 2) := by decide +kernel
theorem dX6_sessions_14 : decode cX6_sessions 14 = .ok (.invokevirtual 40, 3) := by decide +kernel
theorem dX6_sessions_17 : decode cX6_sessions 17 = .ok (.ireturn, 1) := by decide +kernel
theorem dX6_sessions_18 : decode cX6_sessions 18 = .ok (.aload_n 0, 1) := by decide +kernel
theorem dX6_sessions_19 : decode cX6_sessions 19 = .ok (.getfield 9, 3) := by decide +kernel
theorem dX6_sessions_22 : decode cX6_sessions 22 = .ok (.iconst 0, 1) := by decide +kernel
theorem dX6_sessions_23 : decode cX6_sessions 23 = .ok (.iaload, 1) := by decide +kernel
theorem dX6_sessions_24 : decode cX6_sessions 24 = .ok (.iload_n 1, 1) := by decide +kernel
theorem dX6_sessions_25 : decode cX6_sessions 25 = .ok (.iadd, 1) := by decide +kernel
theorem dX6_sessions_26 : decode cX6_sessions 26 = .ok (.ldc 110, 2) := by decide +kernel
theorem dX6_sessions_28 : decode cX6_sessions 28 = .ok (.if_icmp .le 10, 3) := by decide +kernel
theorem dX6_sessions_31 : decode cX6_sessions 31 = .ok (.aload_n 0, 1) := by decide +kernel
theorem dX6_sessions_32 : decode cX6_sessions 32 = .ok (.ldc 111, 2) := by decide +kernel
theorem dX6_sessions_34 : decode cX6_sessions 34 = .ok (.invokevirtual 40, 3) := by decide +kernel
theorem dX6_sessions_37 : decode cX6_sessions 37 = .ok (.ireturn, 1) := by decide +kernel
theorem dX6_sessions_38 : decode cX6_sessions 38 = .ok (.aload_n 0, 1) := by decide +kernel
theorem dX6_sessions_39 : decode cX6_sessions 39 = .ok (.iload_n 1, 1) := by decide +kernel
theorem dX6_sessions_40 : decode cX6_sessions 40 = .ok (.invokevirtual 112, 3) := by decide +kernel
theorem dX6_sessions_43 : decode cX6_sessions 43 = .ok (.aload_n 0, 1) := by decide +kernel
theorem dX6_sessions_44 : decode cX6_sessions 44 = .ok (.getfield 9, 3) := by decide +kernel
theorem dX6_sessions_47 : decode cX6_sessions 47 = .ok (.iconst 2, 1) := by decide +kernel
theorem dX6_sessions_48 : decode cX6_sessions 48 = .ok (.iaload, 1) := by decide +kernel
theorem dX6_sessions_49 : decode cX6_sessions 49 = .ok (.ireturn, 1) := by decide +kernel
theorem dX6_thinks_0 : decode cX6_thinks 0 = .ok (.aload_n 0, 1) := by decide +kernel
theorem dX6_thinks_1 : decode cX6_thinks 1 = .ok (.getfield 9, 3) := by decide +kernel
theorem dX6_thinks_4 : decode cX6_thinks 4 = .ok (.aload_n 0, 1) := by decide +kernel
theorem dX6_thinks_5 : decode cX6_thinks 5 = .ok (.getfield 16, 3) := by decide +kernel
theorem dX6_thinks_8 : decode cX6_thinks 8 = .ok (.invokestatic 116, 3) := by decide +kernel
theorem dX6_thinks_11 : decode cX6_thinks 11 = .ok (.return_, 1) := by decide +kernel
theorem dX6_putsBack_0 : decode cX6_putsBack 0 = .ok (.aload_n 0, 1) := by decide +kernel
theorem dX6_putsBack_1 : decode cX6_putsBack 1 = .ok (.getfield 16, 3) := by decide +kernel
theorem dX6_putsBack_4 : decode cX6_putsBack 4 = .ok (.aload_n 0, 1) := by decide +kernel
theorem dX6_putsBack_5 : decode cX6_putsBack 5 = .ok (.getfield 9, 3) := by decide +kernel
theorem dX6_putsBack_8 : decode cX6_putsBack 8 = .ok (.invokestatic 116, 3) := by decide +kernel
theorem dX6_putsBack_11 : decode cX6_putsBack 11 = .ok (.return_, 1) := by decide +kernel
theorem dX6_on_0 : decode cX6_on 0 = .ok (.aload_n 0, 1) := by decide +kernel
theorem dX6_on_1 : decode cX6_on 1 = .ok (.iload_n 1, 1) := by decide +kernel
theorem dX6_on_2 : decode cX6_on 2 = .ok (.invokevirtual 83, 3) := by decide +kernel
theorem dX6_on_5 : decode cX6_on 5 = .ok (.ifCond .eq 25, 3) := by decide +kernel
theorem dX6_on_8 : decode cX6_on 8 = .ok (.iload_n 2, 1) := by decide +kernel
theorem dX6_on_9 : decode cX6_on 9 = .ok (.i2l, 1) := by decide +kernel
theorem dX6_on_10 : decode cX6_on 10 = .ok (.iconst 0, 1) := by decide +kernel
theorem dX6_on_11 : decode cX6_on 11 = .ok (.sipush 200, 3) := by decide +kernel
theorem dX6_on_14 : decode cX6_on 14 = .ok (.invokestatic 44, 3) := by decide +kernel
theorem dX6_on_17 : decode cX6_on 17 = .ok (.ifCond .eq 13, 3) := by decide +kernel
theorem dX6_on_20 : decode cX6_on 20 = .ok (.iload_n 3, 1) := by decide +kernel
theorem dX6_on_21 : decode cX6_on 21 = .ok (.i2l, 1) := by decide +kernel
theorem dX6_on_22 : decode cX6_on 22 = .ok (.iconst 0, 1) := by decide +kernel
theorem dX6_on_23 : decode cX6_on 23 = .ok (.iconst 3, 1) := by decide +kernel
theorem dX6_on_24 : decode cX6_on 24 = .ok (.invokestatic 44, 3) := by decide +kernel
theorem dX6_on_27 : decode cX6_on 27 = .ok (.ifCond .ne 10, 3) := by decide +kernel
theorem dX6_on_30 : decode cX6_on 30 = .ok (.aload_n 0, 1) := by decide +kernel
theorem dX6_on_31 : decode cX6_on 31 = .ok (.ldc 38, 2) := by decide +kernel
theorem dX6_on_33 : decode cX6_on 33 = .ok (.invokevirtual 40, 3) := by decide +kernel
theorem dX6_on_36 : decode cX6_on 36 = .ok (.ireturn, 1) := by decide +kernel
theorem dX6_on_37 : decode cX6_on 37 = .ok (.aload_n 0, 1) := by decide +kernel
theorem dX6_on_38 : decode cX6_on 38 = .ok (.invokevirtual 120, 3) := by decide +kernel
theorem dX6_on_41 : decode cX6_on 41 = .ok (.aload_n 0, 1) := by decide +kernel
theorem dX6_on_42 : decode cX6_on 42 = .ok (.iload_n 2, 1) := by decide +kernel
theorem dX6_on_43 : decode cX6_on 43 = .ok (.invokevirtual 112, 3) := by decide +kernel
theorem dX6_on_46 : decode cX6_on 46 = .ok (.aload_n 0, 1) := by decide +kernel
theorem dX6_on_47 : decode cX6_on 47 = .ok (.iload_n 1, 1) := by decide +kernel
theorem dX6_on_48 : decode cX6_on 48 = .ok (.iconst 1, 1) := by decide +kernel
theorem dX6_on_49 : decode cX6_on 49 = .ok (.iload_n 3, 1) := by decide +kernel
theorem dX6_on_50 : decode cX6_on 50 = .ok (.iadd, 1) := by decide +kernel
theorem dX6_on_51 : decode cX6_on 51 = .ok (.invokevirtual 48, 3) := by decide +kernel
theorem dX6_on_54 : decode cX6_on 54 = .ok (.istore 4, 2) := by decide +kernel
theorem dX6_on_56 : decode cX6_on 56 = .ok (.aload_n 0, 1) := by decide +kernel
theorem dX6_on_57 : decode cX6_on 57 = .ok (.invokevirtual 123, 3) := by decide +kernel
theorem dX6_on_60 : decode cX6_on 60 = .ok (.iload 4, 2) := by decide +kernel
theorem dX6_on_62 : decode cX6_on 62 = .ok (.ireturn, 1) := by decide +kernel
theorem dX6_then_0 : decode cX6_then 0 = .ok (.iload_n 1, 1) := by decide +kernel
theorem dX6_then_1 : decode cX6_then 1 = .ok (.i2l, 1) := by decide +kernel
theorem dX6_then_2 : decode cX6_then 2 = .ok (.iconst 0, 1) := by decide +kernel
theorem dX6_then_3 : decode cX6_then 3 = .ok (.sipush 200, 3) := by decide +kernel
theorem dX6_then_6 : decode cX6_then 6 = .ok (.invokestatic 44, 3) := by decide +kernel
theorem dX6_then_9 : decode cX6_then 9 = .ok (.ifCond .eq 13, 3) := by decide +kernel
theorem dX6_then_12 : decode cX6_then 12 = .ok (.iload_n 2, 1) := by decide +kernel
theorem dX6_then_13 : decode cX6_then 13 = .ok (.i2l, 1) := by decide +kernel
theorem dX6_then_14 : decode cX6_then 14 = .ok (.iconst 0, 1) := by decide +kernel
theorem dX6_then_15 : decode cX6_then 15 = .ok (.iconst 1, 1) := by decide +kernel
theorem dX6_then_16 : decode cX6_then 16 = .ok (.invokestatic 44, 3) := by decide +kernel
theorem dX6_then_19 : decode cX6_then 19 = .ok (.ifCond .ne 10, 3) := by decide +kernel
theorem dX6_then_22 : decode cX6_then 22 = .ok (.aload_n 0, 1) := by decide +kernel
theorem dX6_then_23 : decode cX6_then 23 = .ok (.ldc 38, 2) := by decide +kernel
theorem dX6_then_25 : decode cX6_then 25 = .ok (.invokevirtual 40, 3) := by decide +kernel
theorem dX6_then_28 : decode cX6_then 28 = .ok (.ireturn, 1) := by decide +kernel
theorem dX6_then_29 : decode cX6_then 29 = .ok (.aload_n 0, 1) := by decide +kernel
theorem dX6_then_30 : decode cX6_then 30 = .ok (.invokevirtual 120, 3) := by decide +kernel
theorem dX6_then_33 : decode cX6_then 33 = .ok (.aload_n 0, 1) := by decide +kernel
theorem dX6_then_34 : decode cX6_then 34 = .ok (.iload_n 1, 1) := by decide +kernel
theorem dX6_then_35 : decode cX6_then 35 = .ok (.invokevirtual 112, 3) := by decide +kernel
theorem dX6_then_38 : decode cX6_then 38 = .ok (.iload_n 2, 1) := by decide +kernel
theorem dX6_then_39 : decode cX6_then 39 = .ok (.ifCond .ne 12, 3) := by decide +kernel
theorem dX6_then_42 : decode cX6_then 42 = .ok (.aload_n 0, 1) := by decide +kernel
theorem dX6_then_43 : decode cX6_then 43 = .ok (.getfield 9, 3) := by decide +kernel
theorem dX6_then_46 : decode cX6_then 46 = .ok (.iconst 2, 1) := by decide +kernel
theorem dX6_then_47 : decode cX6_then 47 = .ok (.iaload, 1) := by decide +kernel
theorem dX6_then_48 : decode cX6_then 48 = .ok (.goto 7, 3) := by decide +kernel
theorem dX6_then_51 : decode cX6_then 51 = .ok (.aload_n 0, 1) := by decide +kernel
theorem dX6_then_52 : decode cX6_then 52 = .ok (.invokevirtual 71, 3) := by decide +kernel
theorem dX6_then_55 : decode cX6_then 55 = .ok (.istore_n 3, 1) := by decide +kernel
theorem dX6_then_56 : decode cX6_then 56 = .ok (.aload_n 0, 1) := by decide +kernel
theorem dX6_then_57 : decode cX6_then 57 = .ok (.invokevirtual 123, 3) := by decide +kernel
theorem dX6_then_60 : decode cX6_then 60 = .ok (.iload_n 3, 1) := by decide +kernel
theorem dX6_then_61 : decode cX6_then 61 = .ok (.ireturn, 1) := by decide +kernel
theorem dX6_comes_0 : decode cX6_comes 0 = .ok (.iload_n 1, 1) := by decide +kernel
theorem dX6_comes_1 : decode cX6_comes 1 = .ok (.i2l, 1) := by decide +kernel
theorem dX6_comes_2 : decode cX6_comes 2 = .ok (.iconst 0, 1) := by decide +kernel
theorem dX6_comes_3 : decode cX6_comes 3 = .ok (.bipush 7, 2) := by decide +kernel
theorem dX6_comes_5 : decode cX6_comes 5 = .ok (.invokestatic 44, 3) := by decide +kernel
theorem dX6_comes_8 : decode cX6_comes 8 = .ok (.ifCond .eq 13, 3) := by decide +kernel
theorem dX6_comes_11 : decode cX6_comes 11 = .ok (.iload_n 2, 1) := by decide +kernel
theorem dX6_comes_12 : decode cX6_comes 12 = .ok (.i2l, 1) := by decide +kernel
theorem dX6_comes_13 : decode cX6_comes 13 = .ok (.iconst 0, 1) := by decide +kernel
theorem dX6_comes_14 : decode cX6_comes 14 = .ok (.iconst 1, 1) := by decide +kernel
theorem dX6_comes_15 : decode cX6_comes 15 = .ok (.invokestatic 44, 3) := by decide +kernel
theorem dX6_comes_18 : decode cX6_comes 18 = .ok (.ifCond .ne 10, 3) := by decide +kernel
theorem dX6_comes_21 : decode cX6_comes 21 = .ok (.aload_n 0, 1) := by decide +kernel
theorem dX6_comes_22 : decode cX6_comes 22 = .ok (.ldc 38, 2) := by decide +kernel
theorem dX6_comes_24 : decode cX6_comes 24 = .ok (.invokevirtual 40, 3) := by decide +kernel
theorem dX6_comes_27 : decode cX6_comes 27 = .ok (.ireturn, 1) := by decide +kernel
theorem dX6_comes_28 : decode cX6_comes 28 = .ok (.aload_n 0, 1) := by decide +kernel
theorem dX6_comes_29 : decode cX6_comes 29 = .ok (.invokevirtual 120, 3) := by decide +kernel
theorem dX6_comes_32 : decode cX6_comes 32 = .ok (.iconst 0, 1) := by decide +kernel
theorem dX6_comes_33 : decode cX6_comes 33 = .ok (.istore_n 3, 1) := by decide +kernel
theorem dX6_comes_34 : decode cX6_comes 34 = .ok (.iload_n 3, 1) := by decide +kernel
theorem dX6_comes_35 : decode cX6_comes 35 = .ok (.sipush 200, 3) := by decide +kernel
theorem dX6_comes_38 : decode cX6_comes 38 = .ok (.if_icmp .gt 27, 3) := by decide +kernel
theorem dX6_comes_41 : decode cX6_comes 41 = .ok (.aload_n 0, 1) := by decide +kernel
theorem dX6_comes_42 : decode cX6_comes 42 = .ok (.getfield 9, 3) := by decide +kernel
theorem dX6_comes_45 : decode cX6_comes 45 = .ok (.iconst 2, 1) := by decide +kernel
theorem dX6_comes_46 : decode cX6_comes 46 = .ok (.iaload, 1) := by decide +kernel
theorem dX6_comes_47 : decode cX6_comes 47 = .ok (.iload_n 1, 1) := by decide +kernel
theorem dX6_comes_48 : decode cX6_comes 48 = .ok (.ishr, 1) := by decide +kernel
theorem dX6_comes_49 : decode cX6_comes 49 = .ok (.iconst 1, 1) := by decide +kernel
theorem dX6_comes_50 : decode cX6_comes 50 = .ok (.iand, 1) := by decide +kernel
theorem dX6_comes_51 : decode cX6_comes 51 = .ok (.iload_n 2, 1) := by decide +kernel
theorem dX6_comes_52 : decode cX6_comes 52 = .ok (.if_icmp .eq 13, 3) := by decide +kernel
theorem dX6_comes_55 : decode cX6_comes 55 = .ok (.aload_n 0, 1) := by decide +kernel
theorem dX6_comes_56 : decode cX6_comes 56 = .ok (.invokevirtual 107, 3) := by decide +kernel
theorem dX6_comes_59 : decode cX6_comes 59 = .ok (.iinc 3 1, 3) := by decide +kernel
theorem dX6_comes_62 : decode cX6_comes 62 = .ok (.goto (-28), 3) := by decide +kernel
theorem dX6_comes_65 : decode cX6_comes 65 = .ok (.aload_n 0, 1) := by decide +kernel
theorem dX6_comes_66 : decode cX6_comes 66 = .ok (.invokevirtual 123, 3) := by decide +kernel
theorem dX6_comes_69 : decode cX6_comes 69 = .ok (.iload_n 3, 1) := by decide +kernel
theorem dX6_comes_70 : decode cX6_comes 70 = .ok (.sipush 200, 3) := by decide +kernel
theorem dX6_comes_73 : decode cX6_comes 73 = .ok (.if_icmp .le 12, 3) := by decide +kernel
theorem dX6_comes_76 : decode cX6_comes 76 = .ok (.aload_n 0, 1) := by decide +kernel
theorem dX6_comes_77 : decode cX6_comes 77 = .ok (.ldc 39, 2) := by decide +kernel
theorem dX6_comes_79 : decode cX6_comes 79 = .ok (.invokevirtual 40, 3) := by decide +kernel
theorem dX6_comes_82 : decode cX6_comes 82 = .ok (.goto 4, 3) := by decide +kernel
theorem dX6_comes_85 : decode cX6_comes 85 = .ok (.iload_n 3, 1) := by decide +kernel
theorem dX6_comes_86 : decode cX6_comes 86 = .ok (.ireturn, 1) := by decide +kernel
theorem dX6_wise_0 : decode cX6_wise 0 = .ok (.aload_n 0, 1) := by decide +kernel
theorem dX6_wise_1 : decode cX6_wise 1 = .ok (.invokevirtual 120, 3) := by decide +kernel
theorem dX6_wise_4 : decode cX6_wise 4 = .ok (.iconst 0, 1) := by decide +kernel
theorem dX6_wise_5 : decode cX6_wise 5 = .ok (.istore_n 1, 1) := by decide +kernel
theorem dX6_wise_6 : decode cX6_wise 6 = .ok (.iload_n 1, 1) := by decide +kernel
theorem dX6_wise_7 : decode cX6_wise 7 = .ok (.sipush 200, 3) := by decide +kernel
theorem dX6_wise_10 : decode cX6_wise 10 = .ok (.if_icmp .gt 23, 3) := by decide +kernel
theorem dX6_wise_13 : decode cX6_wise 13 = .ok (.aload_n 0, 1) := by decide +kernel
theorem dX6_wise_14 : decode cX6_wise 14 = .ok (.invokevirtual 71, 3) := by decide +kernel
theorem dX6_wise_17 : decode cX6_wise 17 = .ok (.sipush 255, 3) := by decide +kernel
theorem dX6_wise_20 : decode cX6_wise 20 = .ok (.if_icmp .eq 13, 3) := by decide +kernel
theorem dX6_wise_23 : decode cX6_wise 23 = .ok (.aload_n 0, 1) := by decide +kernel
theorem dX6_wise_24 : decode cX6_wise 24 = .ok (.invokevirtual 107, 3) := by decide +kernel
theorem dX6_wise_27 : decode cX6_wise 27 = .ok (.iinc 1 1, 3) := by decide +kernel
theorem dX6_wise_30 : decode cX6_wise 30 = .ok (.goto (-24), 3) := by decide +kernel
theorem dX6_wise_33 : decode cX6_wise 33 = .ok (.aload_n 0, 1) := by decide +kernel
theorem dX6_wise_34 : decode cX6_wise 34 = .ok (.invokevirtual 123, 3) := by decide +kernel
theorem dX6_wise_37 : decode cX6_wise 37 = .ok (.iload_n 1, 1) := by decide +kernel
theorem dX6_wise_38 : decode cX6_wise 38 = .ok (.sipush 200, 3) := by decide +kernel
theorem dX6_wise_41 : decode cX6_wise 41 = .ok (.if_icmp .le 12, 3) := by decide +kernel
theorem dX6_wise_44 : decode cX6_wise 44 = .ok (.aload_n 0, 1) := by decide +kernel
theorem dX6_wise_45 : decode cX6_wise 45 = .ok (.ldc 39, 2) := by decide +kernel
theorem dX6_wise_47 : decode cX6_wise 47 = .ok (.invokevirtual 40, 3) := by decide +kernel
theorem dX6_wise_50 : decode cX6_wise 50 = .ok (.goto 4, 3) := by decide +kernel
theorem dX6_wise_53 : decode cX6_wise 53 = .ok (.iload_n 1, 1) := by decide +kernel
theorem dX6_wise_54 : decode cX6_wise 54 = .ok (.ireturn, 1) := by decide +kernel
theorem dX6_errs_0 : decode cX6_errs 0 = .ok (.aload_n 0, 1) := by decide +kernel
theorem dX6_errs_1 : decode cX6_errs 1 = .ok (.iload_n 1, 1) := by decide +kernel
theorem dX6_errs_2 : decode cX6_errs 2 = .ok (.invokevirtual 83, 3) := by decide +kernel
theorem dX6_errs_5 : decode cX6_errs 5 = .ok (.ifCond .ne 10, 3) := by decide +kernel
theorem dX6_errs_8 : decode cX6_errs 8 = .ok (.aload_n 0, 1) := by decide +kernel
theorem dX6_errs_9 : decode cX6_errs 9 = .ok (.ldc 38, 2) := by decide +kernel
theorem dX6_errs_11 : decode cX6_errs 11 = .ok (.invokevirtual 40, 3) := by decide +kernel
theorem dX6_errs_14 : decode cX6_errs 14 = .ok (.ireturn, 1) := by decide +kernel
theorem dX6_errs_15 : decode cX6_errs 15 = .ok (.aload_n 0, 1) := by decide +kernel
theorem dX6_errs_16 : decode cX6_errs 16 = .ok (.invokevirtual 120, 3) := by decide +kernel
theorem dX6_errs_19 : decode cX6_errs 19 = .ok (.aload_n 0, 1) := by decide +kernel
theorem dX6_errs_20 : decode cX6_errs 20 = .ok (.iload_n 1, 1) := by decide +kernel
theorem dX6_errs_21 : decode cX6_errs 21 = .ok (.iconst 3, 1) := by decide +kernel
theorem dX6_errs_22 : decode cX6_errs 22 = .ok (.invokevirtual 48, 3) := by decide +kernel
theorem dX6_errs_25 : decode cX6_errs 25 = .ok (.istore_n 2, 1) := by decide +kernel
theorem dX6_errs_26 : decode cX6_errs 26 = .ok (.iconst 1, 1) := by decide +kernel
theorem dX6_errs_27 : decode cX6_errs 27 = .ok (.istore_n 3, 1) := by decide +kernel
theorem dX6_errs_28 : decode cX6_errs 28 = .ok (.aload_n 0, 1) := by decide +kernel
theorem dX6_errs_29 : decode cX6_errs 29 = .ok (.invokevirtual 107, 3) := by decide +kernel
theorem dX6_errs_32 : decode cX6_errs 32 = .ok (.iload_n 3, 1) := by decide +kernel
theorem dX6_errs_33 : decode cX6_errs 33 = .ok (.sipush 200, 3) := by decide +kernel
theorem dX6_errs_36 : decode cX6_errs 36 = .ok (.if_icmp .gt 23, 3) := by decide +kernel
theorem dX6_errs_39 : decode cX6_errs 39 = .ok (.aload_n 0, 1) := by decide +kernel
theorem dX6_errs_40 : decode cX6_errs 40 = .ok (.iload_n 1, 1) := by decide +kernel
theorem dX6_errs_41 : decode cX6_errs 41 = .ok (.iconst 3, 1) := by decide +kernel
theorem dX6_errs_42 : decode cX6_errs 42 = .ok (.invokevirtual 48, 3) := by decide +kernel
theorem dX6_errs_45 : decode cX6_errs 45 = .ok (.iload_n 2, 1) := by decide +kernel
theorem dX6_errs_46 : decode cX6_errs 46 = .ok (.if_icmp .ne 13, 3) := by decide +kernel
theorem dX6_errs_49 : decode cX6_errs 49 = .ok (.aload_n 0, 1) := by decide +kernel
theorem dX6_errs_50 : decode cX6_errs 50 = .ok (.invokevirtual 107, 3) := by decide +kernel
theorem dX6_errs_53 : decode cX6_errs 53 = .ok (.iinc 3 1, 3) := by decide +kernel
theorem dX6_errs_56 : decode cX6_errs 56 = .ok (.goto (-24), 3) := by decide +kernel
theorem dX6_errs_59 : decode cX6_errs 59 = .ok (.aload_n 0, 1) := by decide +kernel
theorem dX6_errs_60 : decode cX6_errs 60 = .ok (.invokevirtual 123, 3) := by decide +kernel
theorem dX6_errs_63 : decode cX6_errs 63 = .ok (.iload_n 3, 1) := by decide +kernel
theorem dX6_errs_64 : decode cX6_errs 64 = .ok (.sipush 200, 3) := by decide +kernel
theorem dX6_errs_67 : decode cX6_errs 67 = .ok (.if_icmp .le 12, 3) := by decide +kernel
theorem dX6_errs_70 : decode cX6_errs 70 = .ok (.aload_n 0, 1) := by decide +kernel
theorem dX6_errs_71 : decode cX6_errs 71 = .ok (.ldc 39, 2) := by decide +kernel
theorem dX6_errs_73 : decode cX6_errs 73 = .ok (.invokevirtual 40, 3) := by decide +kernel
theorem dX6_errs_76 : decode cX6_errs 76 = .ok (.goto 4, 3) := by decide +kernel
theorem dX6_errs_79 : decode cX6_errs 79 = .ok (.iload_n 3, 1) := by decide +kernel
theorem dX6_errs_80 : decode cX6_errs 80 = .ok (.ireturn, 1) := by decide +kernel
theorem dX6_wiseOn_0 : decode cX6_wiseOn 0 = .ok (.aload_n 0, 1) := by decide +kernel
theorem dX6_wiseOn_1 : decode cX6_wiseOn 1 = .ok (.iload_n 1, 1) := by decide +kernel
theorem dX6_wiseOn_2 : decode cX6_wiseOn 2 = .ok (.invokevirtual 112, 3) := by decide +kernel
theorem dX6_wiseOn_5 : decode cX6_wiseOn 5 = .ok (.aload_n 0, 1) := by decide +kernel
theorem dX6_wiseOn_6 : decode cX6_wiseOn 6 = .ok (.invokevirtual 71, 3) := by decide +kernel
theorem dX6_wiseOn_9 : decode cX6_wiseOn 9 = .ok (.invokestatic 126, 3) := by decide +kernel
theorem dX6_wiseOn_12 : decode cX6_wiseOn 12 = .ok (.istore_n 2, 1) := by decide +kernel
theorem dX6_wiseOn_13 : decode cX6_wiseOn 13 = .ok (.aload_n 0, 1) := by decide +kernel
theorem dX6_wiseOn_14 : decode cX6_wiseOn 14 = .ok (.invokevirtual 123, 3) := by decide +kernel
theorem dX6_wiseOn_17 : decode cX6_wiseOn 17 = .ok (.iload_n 2, 1) := by decide +kernel
theorem dX6_wiseOn_18 : decode cX6_wiseOn 18 = .ok (.ireturn, 1) := by decide +kernel
theorem dX6_rightOn_0 : decode cX6_rightOn 0 = .ok (.aload_n 0, 1) := by decide +kernel
theorem dX6_rightOn_1 : decode cX6_rightOn 1 = .ok (.iload_n 2, 1) := by decide +kernel
theorem dX6_rightOn_2 : decode cX6_rightOn 2 = .ok (.invokevirtual 112, 3) := by decide +kernel
theorem dX6_rightOn_5 : decode cX6_rightOn 5 = .ok (.aload_n 0, 1) := by decide +kernel
theorem dX6_rightOn_6 : decode cX6_rightOn 6 = .ok (.iload_n 1, 1) := by decide +kernel
theorem dX6_rightOn_7 : decode cX6_rightOn 7 = .ok (.iconst 2, 1) := by decide +kernel
theorem dX6_rightOn_8 : decode cX6_rightOn 8 = .ok (.invokevirtual 48, 3) := by decide +kernel
theorem dX6_rightOn_11 : decode cX6_rightOn 11 = .ok (.istore_n 3, 1) := by decide +kernel
theorem dX6_rightOn_12 : decode cX6_rightOn 12 = .ok (.aload_n 0, 1) := by decide +kernel
theorem dX6_rightOn_13 : decode cX6_rightOn 13 = .ok (.invokevirtual 123, 3) := by decide +kernel
theorem dX6_rightOn_16 : decode cX6_rightOn 16 = .ok (.iload_n 3, 1) := by decide +kernel
theorem dX6_rightOn_17 : decode cX6_rightOn 17 = .ok (.ireturn, 1) := by decide +kernel
theorem dX6_lift_0 : decode cX6_lift 0 = .ok (.iload_n 1, 1) := by decide +kernel
theorem dX6_lift_1 : decode cX6_lift 1 = .ok (.i2l, 1) := by decide +kernel
theorem dX6_lift_2 : decode cX6_lift 2 = .ok (.iconst 1, 1) := by decide +kernel
theorem dX6_lift_3 : decode cX6_lift 3 = .ok (.bipush 60, 2) := by decide +kernel
theorem dX6_lift_5 : decode cX6_lift 5 = .ok (.invokestatic 44, 3) := by decide +kernel
theorem dX6_lift_8 : decode cX6_lift 8 = .ok (.ifCond .ne 10, 3) := by decide +kernel
theorem dX6_lift_11 : decode cX6_lift 11 = .ok (.aload_n 0, 1) := by decide +kernel
theorem dX6_lift_12 : decode cX6_lift 12 = .ok (.ldc 38, 2) := by decide +kernel
theorem dX6_lift_14 : decode cX6_lift 14 = .ok (.invokevirtual 40, 3) := by decide +kernel
theorem dX6_lift_17 : decode cX6_lift 17 = .ok (.ireturn, 1) := by decide +kernel
theorem dX6_lift_18 : decode cX6_lift 18 = .ok (.aload_n 0, 1) := by decide +kernel
theorem dX6_lift_19 : decode cX6_lift 19 = .ok (.invokevirtual 120, 3) := by decide +kernel
theorem dX6_lift_22 : decode cX6_lift 22 = .ok (.iconst (-1), 1) := by decide +kernel
theorem dX6_lift_23 : decode cX6_lift 23 = .ok (.istore_n 2, 1) := by decide +kernel
theorem dX6_lift_24 : decode cX6_lift 24 = .ok (.iconst (-1), 1) := by decide +kernel
theorem dX6_lift_25 : decode cX6_lift 25 = .ok (.istore_n 3, 1) := by decide +kernel
theorem dX6_lift_26 : decode cX6_lift 26 = .ok (.iconst 0, 1) := by decide +kernel
theorem dX6_lift_27 : decode cX6_lift 27 = .ok (.istore 4, 2) := by decide +kernel
theorem dX6_lift_29 : decode cX6_lift 29 = .ok (.iload 4, 2) := by decide +kernel
theorem dX6_lift_31 : decode cX6_lift 31 = .ok (.aload_n 0, 1) := by decide +kernel
theorem dX6_lift_32 : decode cX6_lift 32 = .ok (.getfield 9, 3) := by decide +kernel
theorem dX6_lift_35 : decode cX6_lift 35 = .ok (.iconst 3, 1) := by decide +kernel
theorem dX6_lift_36 : decode cX6_lift 36 = .ok (.iaload, 1) := by decide +kernel
theorem dX6_lift_37 : decode cX6_lift 37 = .ok (.if_icmp .ge 61, 3) := by decide +kernel
theorem dX6_lift_40 : decode cX6_lift 40 = .ok (.aload_n 0, 1) := by decide +kernel
theorem dX6_lift_41 : decode cX6_lift 41 = .ok (.iload 4, 2) := by decide +kernel
theorem dX6_lift_43 : decode cX6_lift 43 = .ok (.iconst 5, 1) := by decide +kernel
theorem dX6_lift_44 : decode cX6_lift 44 = .ok (.invokevirtual 48, 3) := by decide +kernel
theorem dX6_lift_47 : decode cX6_lift 47 = .ok (.iconst 1, 1) := by decide +kernel
theorem dX6_lift_48 : decode cX6_lift 48 = .ok (.if_icmp .ne 44, 3) := by decide +kernel
theorem dX6_lift_51 : decode cX6_lift 51 = .ok (.aload_n 0, 1) := by decide +kernel
theorem dX6_lift_52 : decode cX6_lift 52 = .ok (.iload 4, 2) := by decide +kernel
theorem dX6_lift_54 : decode cX6_lift 54 = .ok (.iconst 5, 1) := by decide +kernel
theorem dX6_lift_55 : decode cX6_lift 55 = .ok (.iconst 0, 1) := by decide +kernel
theorem dX6_lift_56 : decode cX6_lift 56 = .ok (.invokevirtual 74, 3) := by decide +kernel
theorem dX6_lift_59 : decode cX6_lift 59 = .ok (.aload_n 0, 1) := by decide +kernel
theorem dX6_lift_60 : decode cX6_lift 60 = .ok (.iload_n 1, 1) := by decide +kernel
theorem dX6_lift_61 : decode cX6_lift 61 = .ok (.invokevirtual 129, 3) := by decide +kernel
theorem dX6_lift_64 : decode cX6_lift 64 = .ok (.istore 5, 2) := by decide +kernel
theorem dX6_lift_66 : decode cX6_lift 66 = .ok (.iload 5, 2) := by decide +kernel
theorem dX6_lift_68 : decode cX6_lift 68 = .ok (.iload_n 3, 1) := by decide +kernel
theorem dX6_lift_69 : decode cX6_lift 69 = .ok (.if_icmp .le 8, 3) := by decide +kernel
theorem dX6_lift_72 : decode cX6_lift 72 = .ok (.iload 4, 2) := by decide +kernel
theorem dX6_lift_74 : decode cX6_lift 74 = .ok (.goto 4, 3) := by decide +kernel
theorem dX6_lift_77 : decode cX6_lift 77 = .ok (.iload_n 2, 1) := by decide +kernel
theorem dX6_lift_78 : decode cX6_lift 78 = .ok (.istore_n 2, 1) := by decide +kernel
theorem dX6_lift_79 : decode cX6_lift 79 = .ok (.iload 5, 2) := by decide +kernel
theorem dX6_lift_81 : decode cX6_lift 81 = .ok (.iload_n 3, 1) := by decide +kernel
theorem dX6_lift_82 : decode cX6_lift 82 = .ok (.if_icmp .le 8, 3) := by decide +kernel
theorem dX6_lift_85 : decode cX6_lift 85 = .ok (.iload 5, 2) := by decide +kernel
theorem dX6_lift_87 : decode cX6_lift 87 = .ok (.goto 4, 3) := by decide +kernel
theorem dX6_lift_90 : decode cX6_lift 90 = .ok (.iload_n 3, 1) := by decide +kernel
theorem dX6_lift_91 : decode cX6_lift 91 = .ok (.istore_n 3, 1) := by decide +kernel
theorem dX6_lift_92 : decode cX6_lift 92 = .ok (.iinc 4 1, 3) := by decide +kernel
theorem dX6_lift_95 : decode cX6_lift 95 = .ok (.goto (-66), 3) := by decide +kernel
theorem dX6_lift_98 : decode cX6_lift 98 = .ok (.aload_n 0, 1) := by decide +kernel
theorem dX6_lift_99 : decode cX6_lift 99 = .ok (.iload_n 2, 1) := by decide +kernel
theorem dX6_lift_100 : decode cX6_lift 100 = .ok (.invokevirtual 132, 3) := by decide +kernel
theorem dX6_lift_103 : decode cX6_lift 103 = .ok (.ireturn, 1) := by decide +kernel
theorem dX6_kind_0 : decode cX6_kind 0 = .ok (.aload_n 0, 1) := by decide +kernel
theorem dX6_kind_1 : decode cX6_kind 1 = .ok (.iload_n 1, 1) := by decide +kernel
theorem dX6_kind_2 : decode cX6_kind 2 = .ok (.invokevirtual 83, 3) := by decide +kernel
theorem dX6_kind_5 : decode cX6_kind 5 = .ok (.ifCond .eq 14, 3) := by decide +kernel
theorem dX6_kind_8 : decode cX6_kind 8 = .ok (.iload_n 2, 1) := by decide +kernel
theorem dX6_kind_9 : decode cX6_kind 9 = .ok (.i2l, 1) := by decide +kernel
theorem dX6_kind_10 : decode cX6_kind 10 = .ok (.iconst 1, 1) := by decide +kernel
theorem dX6_kind_11 : decode cX6_kind 11 = .ok (.bipush 60, 2) := by decide +kernel
theorem dX6_kind_13 : decode cX6_kind 13 = .ok (.invokestatic 44, 3) := by decide +kernel
theorem dX6_kind_16 : decode cX6_kind 16 = .ok (.ifCond .ne 10, 3) := by decide +kernel
theorem dX6_kind_19 : decode cX6_kind 19 = .ok (.aload_n 0, 1) := by decide +kernel
theorem dX6_kind_20 : decode cX6_kind 20 = .ok (.ldc 38, 2) := by decide +kernel
theorem dX6_kind_22 : decode cX6_kind 22 = .ok (.invokevirtual 40, 3) := by decide +kernel
theorem dX6_kind_25 : decode cX6_kind 25 = .ok (.ireturn, 1) := by decide +kernel
theorem dX6_kind_26 : decode cX6_kind 26 = .ok (.aload_n 0, 1) := by decide +kernel
theorem dX6_kind_27 : decode cX6_kind 27 = .ok (.invokevirtual 120, 3) := by decide +kernel
theorem dX6_kind_30 : decode cX6_kind 30 = .ok (.iconst 0, 1) := by decide +kernel
theorem dX6_kind_31 : decode cX6_kind 31 = .ok (.istore_n 3, 1) := by decide +kernel
theorem dX6_kind_32 : decode cX6_kind 32 = .ok (.iconst (-1), 1) := by decide +kernel
theorem dX6_kind_33 : decode cX6_kind 33 = .ok (.istore 4, 2) := by decide +kernel
theorem dX6_kind_35 : decode cX6_kind 35 = .ok (.iconst 0, 1) := by decide +kernel
theorem dX6_kind_36 : decode cX6_kind 36 = .ok (.istore 5, 2) := by decide +kernel
theorem dX6_kind_38 : decode cX6_kind 38 = .ok (.iload 5, 2) := by decide +kernel
theorem dX6_kind_40 : decode cX6_kind 40 = .ok (.iconst 5, 1) := by decide +kernel
theorem dX6_kind_41 : decode cX6_kind 41 = .ok (.if_icmp .gt 55, 3) := by decide +kernel
theorem dX6_kind_44 : decode cX6_kind 44 = .ok (.aload_n 0, 1) := by decide +kernel
theorem dX6_kind_45 : decode cX6_kind 45 = .ok (.iload_n 1, 1) := by decide +kernel
theorem dX6_kind_46 : decode cX6_kind 46 = .ok (.iconst 0, 1) := by decide +kernel
theorem dX6_kind_47 : decode cX6_kind 47 = .ok (.iload 5, 2) := by decide +kernel
theorem dX6_kind_49 : decode cX6_kind 49 = .ok (.invokevirtual 74, 3) := by decide +kernel
theorem dX6_kind_52 : decode cX6_kind 52 = .ok (.aload_n 0, 1) := by decide +kernel
theorem dX6_kind_53 : decode cX6_kind 53 = .ok (.iload_n 1, 1) := by decide +kernel
theorem dX6_kind_54 : decode cX6_kind 54 = .ok (.iload_n 2, 1) := by decide +kernel
theorem dX6_kind_55 : decode cX6_kind 55 = .ok (.invokevirtual 135, 3) := by decide +kernel
theorem dX6_kind_58 : decode cX6_kind 58 = .ok (.istore 6, 2) := by decide +kernel
theorem dX6_kind_60 : decode cX6_kind 60 = .ok (.iload 6, 2) := by decide +kernel
theorem dX6_kind_62 : decode cX6_kind 62 = .ok (.iload 4, 2) := by decide +kernel
theorem dX6_kind_64 : decode cX6_kind 64 = .ok (.if_icmp .le 8, 3) := by decide +kernel
theorem dX6_kind_67 : decode cX6_kind 67 = .ok (.iload 5, 2) := by decide +kernel
theorem dX6_kind_69 : decode cX6_kind 69 = .ok (.goto 4, 3) := by decide +kernel
theorem dX6_kind_72 : decode cX6_kind 72 = .ok (.iload_n 3, 1) := by decide +kernel
theorem dX6_kind_73 : decode cX6_kind 73 = .ok (.istore_n 3, 1) := by decide +kernel
theorem dX6_kind_74 : decode cX6_kind 74 = .ok (.iload 6, 2) := by decide +kernel
theorem dX6_kind_76 : decode cX6_kind 76 = .ok (.iload 4, 2) := by decide +kernel
theorem dX6_kind_78 : decode cX6_kind 78 = .ok (.if_icmp .le 8, 3) := by decide +kernel
theorem dX6_kind_81 : decode cX6_kind 81 = .ok (.iload 6, 2) := by decide +kernel
theorem dX6_kind_83 : decode cX6_kind 83 = .ok (.goto 5, 3) := by decide +kernel
theorem dX6_kind_86 : decode cX6_kind 86 = .ok (.iload 4, 2) := by decide +kernel
theorem dX6_kind_88 : decode cX6_kind 88 = .ok (.istore 4, 2) := by decide +kernel
theorem dX6_kind_90 : decode cX6_kind 90 = .ok (.iinc 5 1, 3) := by decide +kernel
theorem dX6_kind_93 : decode cX6_kind 93 = .ok (.goto (-55), 3) := by decide +kernel
theorem dX6_kind_96 : decode cX6_kind 96 = .ok (.iload_n 3, 1) := by decide +kernel
theorem dX6_kind_97 : decode cX6_kind 97 = .ok (.ireturn, 1) := by decide +kernel
theorem dX6_view_0 : decode cX6_view 0 = .ok (.aload_n 0, 1) := by decide +kernel
theorem dX6_view_1 : decode cX6_view 1 = .ok (.iload_n 1, 1) := by decide +kernel
theorem dX6_view_2 : decode cX6_view 2 = .ok (.invokevirtual 83, 3) := by decide +kernel
theorem dX6_view_5 : decode cX6_view 5 = .ok (.ifCond .eq 14, 3) := by decide +kernel
theorem dX6_view_8 : decode cX6_view 8 = .ok (.iload_n 2, 1) := by decide +kernel
theorem dX6_view_9 : decode cX6_view 9 = .ok (.i2l, 1) := by decide +kernel
theorem dX6_view_10 : decode cX6_view 10 = .ok (.iconst 1, 1) := by decide +kernel
theorem dX6_view_11 : decode cX6_view 11 = .ok (.bipush 32, 2) := by decide +kernel
theorem dX6_view_13 : decode cX6_view 13 = .ok (.invokestatic 44, 3) := by decide +kernel
theorem dX6_view_16 : decode cX6_view 16 = .ok (.ifCond .ne 10, 3) := by decide +kernel
theorem dX6_view_19 : decode cX6_view 19 = .ok (.aload_n 0, 1) := by decide +kernel
theorem dX6_view_20 : decode cX6_view 20 = .ok (.ldc 38, 2) := by decide +kernel
theorem dX6_view_22 : decode cX6_view 22 = .ok (.invokevirtual 40, 3) := by decide +kernel
theorem dX6_view_25 : decode cX6_view 25 = .ok (.ireturn, 1) := by decide +kernel
theorem dX6_view_26 : decode cX6_view 26 = .ok (.aload_n 0, 1) := by decide +kernel
theorem dX6_view_27 : decode cX6_view 27 = .ok (.invokevirtual 120, 3) := by decide +kernel
theorem dX6_view_30 : decode cX6_view 30 = .ok (.iconst 0, 1) := by decide +kernel
theorem dX6_view_31 : decode cX6_view 31 = .ok (.istore_n 3, 1) := by decide +kernel
theorem dX6_view_32 : decode cX6_view 32 = .ok (.iconst (-1), 1) := by decide +kernel
theorem dX6_view_33 : decode cX6_view 33 = .ok (.istore 4, 2) := by decide +kernel
theorem dX6_view_35 : decode cX6_view 35 = .ok (.iconst 0, 1) := by decide +kernel
theorem dX6_view_36 : decode cX6_view 36 = .ok (.istore 5, 2) := by decide +kernel
theorem dX6_view_38 : decode cX6_view 38 = .ok (.iload 5, 2) := by decide +kernel
theorem dX6_view_40 : decode cX6_view 40 = .ok (.sipush 255, 3) := by decide +kernel
theorem dX6_view_43 : decode cX6_view 43 = .ok (.if_icmp .gt 54, 3) := by decide +kernel
theorem dX6_view_46 : decode cX6_view 46 = .ok (.aload_n 0, 1) := by decide +kernel
theorem dX6_view_47 : decode cX6_view 47 = .ok (.iload_n 1, 1) := by decide +kernel
theorem dX6_view_48 : decode cX6_view 48 = .ok (.iconst 1, 1) := by decide +kernel
theorem dX6_view_49 : decode cX6_view 49 = .ok (.iload 5, 2) := by decide +kernel
theorem dX6_view_51 : decode cX6_view 51 = .ok (.invokevirtual 74, 3) := by decide +kernel
theorem dX6_view_54 : decode cX6_view 54 = .ok (.aload_n 0, 1) := by decide +kernel
theorem dX6_view_55 : decode cX6_view 55 = .ok (.iload_n 2, 1) := by decide +kernel
theorem dX6_view_56 : decode cX6_view 56 = .ok (.invokevirtual 129, 3) := by decide +kernel
theorem dX6_view_59 : decode cX6_view 59 = .ok (.istore 6, 2) := by decide +kernel
theorem dX6_view_61 : decode cX6_view 61 = .ok (.iload 6, 2) := by decide +kernel
theorem dX6_view_63 : decode cX6_view 63 = .ok (.iload 4, 2) := by decide +kernel
theorem dX6_view_65 : decode cX6_view 65 = .ok (.if_icmp .le 8, 3) := by decide +kernel
theorem dX6_view_68 : decode cX6_view 68 = .ok (.iload 5, 2) := by decide +kernel
theorem dX6_view_70 : decode cX6_view 70 = .ok (.goto 4, 3) := by decide +kernel
theorem dX6_view_73 : decode cX6_view 73 = .ok (.iload_n 3, 1) := by decide +kernel
theorem dX6_view_74 : decode cX6_view 74 = .ok (.istore_n 3, 1) := by decide +kernel
theorem dX6_view_75 : decode cX6_view 75 = .ok (.iload 6, 2) := by decide +kernel
theorem dX6_view_77 : decode cX6_view 77 = .ok (.iload 4, 2) := by decide +kernel
theorem dX6_view_79 : decode cX6_view 79 = .ok (.if_icmp .le 8, 3) := by decide +kernel
theorem dX6_view_82 : decode cX6_view 82 = .ok (.iload 6, 2) := by decide +kernel
theorem dX6_view_84 : decode cX6_view 84 = .ok (.goto 5, 3) := by decide +kernel
theorem dX6_view_87 : decode cX6_view 87 = .ok (.iload 4, 2) := by decide +kernel
theorem dX6_view_89 : decode cX6_view 89 = .ok (.istore 4, 2) := by decide +kernel
theorem dX6_view_91 : decode cX6_view 91 = .ok (.iinc 5 1, 3) := by decide +kernel
theorem dX6_view_94 : decode cX6_view 94 = .ok (.goto (-56), 3) := by decide +kernel
theorem dX6_view_97 : decode cX6_view 97 = .ok (.iload_n 3, 1) := by decide +kernel
theorem dX6_view_98 : decode cX6_view 98 = .ok (.ireturn, 1) := by decide +kernel
theorem dX6_faith_0 : decode cX6_faith 0 = .ok (.aload_n 0, 1) := by decide +kernel
theorem dX6_faith_1 : decode cX6_faith 1 = .ok (.iload_n 1, 1) := by decide +kernel
theorem dX6_faith_2 : decode cX6_faith 2 = .ok (.invokevirtual 83, 3) := by decide +kernel
theorem dX6_faith_5 : decode cX6_faith 5 = .ok (.ifCond .eq 26, 3) := by decide +kernel
theorem dX6_faith_8 : decode cX6_faith 8 = .ok (.iload_n 2, 1) := by decide +kernel
theorem dX6_faith_9 : decode cX6_faith 9 = .ok (.i2l, 1) := by decide +kernel
theorem dX6_faith_10 : decode cX6_faith 10 = .ok (.iconst 1, 1) := by decide +kernel
theorem dX6_faith_11 : decode cX6_faith 11 = .ok (.bipush 60, 2) := by decide +kernel
theorem dX6_faith_13 : decode cX6_faith 13 = .ok (.invokestatic 44, 3) := by decide +kernel
theorem dX6_faith_16 : decode cX6_faith 16 = .ok (.ifCond .eq 15, 3) := by decide +kernel
theorem dX6_faith_19 : decode cX6_faith 19 = .ok (.iload_n 3, 1) := by decide +kernel
theorem dX6_faith_20 : decode cX6_faith 20 = .ok (.i2l, 1) := by decide +kernel
theorem dX6_faith_21 : decode cX6_faith 21 = .ok (.iconst 0, 1) := by decide +kernel
theorem dX6_faith_22 : decode cX6_faith 22 = .ok (.sipush 9999, 3) := by decide +kernel
theorem dX6_faith_25 : decode cX6_faith 25 = .ok (.invokestatic 44, 3) := by decide +kernel
theorem dX6_faith_28 : decode cX6_faith 28 = .ok (.ifCond .ne 10, 3) := by decide +kernel
theorem dX6_faith_31 : decode cX6_faith 31 = .ok (.aload_n 0, 1) := by decide +kernel
theorem dX6_faith_32 : decode cX6_faith 32 = .ok (.ldc 38, 2) := by decide +kernel
theorem dX6_faith_34 : decode cX6_faith 34 = .ok (.invokevirtual 40, 3) := by decide +kernel
theorem dX6_faith_37 : decode cX6_faith 37 = .ok (.ireturn, 1) := by decide +kernel
theorem dX6_faith_38 : decode cX6_faith 38 = .ok (.aload_n 0, 1) := by decide +kernel
theorem dX6_faith_39 : decode cX6_faith 39 = .ok (.invokevirtual 120, 3) := by decide +kernel
theorem dX6_faith_42 : decode cX6_faith 42 = .ok (.iconst (-1), 1) := by decide +kernel
theorem dX6_faith_43 : decode cX6_faith 43 = .ok (.istore 4, 2) := by decide +kernel
theorem dX6_faith_45 : decode cX6_faith 45 = .ok (.iconst 0, 1) := by decide +kernel
theorem dX6_faith_46 : decode cX6_faith 46 = .ok (.istore 5, 2) := by decide +kernel
theorem dX6_faith_48 : decode cX6_faith 48 = .ok (.iload 5, 2) := by decide +kernel
theorem dX6_faith_50 : decode cX6_faith 50 = .ok (.bipush 99, 2) := by decide +kernel
theorem dX6_faith_52 : decode cX6_faith 52 = .ok (.if_icmp .gt 40, 3) := by decide +kernel
theorem dX6_faith_55 : decode cX6_faith 55 = .ok (.iload 4, 2) := by decide +kernel
theorem dX6_faith_57 : decode cX6_faith 57 = .ok (.ifCond .ge 35, 3) := by decide +kernel
theorem dX6_faith_60 : decode cX6_faith 60 = .ok (.aload_n 0, 1) := by decide +kernel
theorem dX6_faith_61 : decode cX6_faith 61 = .ok (.iload_n 1, 1) := by decide +kernel
theorem dX6_faith_62 : decode cX6_faith 62 = .ok (.iconst 4, 1) := by decide +kernel
theorem dX6_faith_63 : decode cX6_faith 63 = .ok (.iload 5, 2) := by decide +kernel
theorem dX6_faith_65 : decode cX6_faith 65 = .ok (.invokevirtual 74, 3) := by decide +kernel
theorem dX6_faith_68 : decode cX6_faith 68 = .ok (.aload_n 0, 1) := by decide +kernel
theorem dX6_faith_69 : decode cX6_faith 69 = .ok (.iload_n 1, 1) := by decide +kernel
theorem dX6_faith_70 : decode cX6_faith 70 = .ok (.iload_n 2, 1) := by decide +kernel
theorem dX6_faith_71 : decode cX6_faith 71 = .ok (.invokevirtual 135, 3) := by decide +kernel
theorem dX6_faith_74 : decode cX6_faith 74 = .ok (.iload_n 3, 1) := by decide +kernel
theorem dX6_faith_75 : decode cX6_faith 75 = .ok (.if_icmp .lt 8, 3) := by decide +kernel
theorem dX6_faith_78 : decode cX6_faith 78 = .ok (.iload 5, 2) := by decide +kernel
theorem dX6_faith_80 : decode cX6_faith 80 = .ok (.goto 4, 3) := by decide +kernel
theorem dX6_faith_83 : decode cX6_faith 83 = .ok (.iconst (-1), 1) := by decide +kernel
theorem dX6_faith_84 : decode cX6_faith 84 = .ok (.istore 4, 2) := by decide +kernel
theorem dX6_faith_86 : decode cX6_faith 86 = .ok (.iinc 5 1, 3) := by decide +kernel
theorem dX6_faith_89 : decode cX6_faith 89 = .ok (.goto (-41), 3) := by decide +kernel
theorem dX6_faith_92 : decode cX6_faith 92 = .ok (.aload_n 0, 1) := by decide +kernel
theorem dX6_faith_93 : decode cX6_faith 93 = .ok (.iload 4, 2) := by decide +kernel
theorem dX6_faith_95 : decode cX6_faith 95 = .ok (.invokevirtual 132, 3) := by decide +kernel
theorem dX6_faith_98 : decode cX6_faith 98 = .ok (.ireturn, 1) := by decide +kernel
theorem dX6_heldThen_0 : decode cX6_heldThen 0 = .ok (.aload_n 0, 1) := by decide +kernel
theorem dX6_heldThen_1 : decode cX6_heldThen 1 = .ok (.invokevirtual 61, 3) := by decide +kernel
theorem dX6_heldThen_4 : decode cX6_heldThen 4 = .ok (.istore_n 1, 1) := by decide +kernel
theorem dX6_heldThen_5 : decode cX6_heldThen 5 = .ok (.aload_n 0, 1) := by decide +kernel
theorem dX6_heldThen_6 : decode cX6_heldThen 6 = .ok (.invokevirtual 107, 3) := by decide +kernel
theorem dX6_heldThen_9 : decode cX6_heldThen 9 = .ok (.aload_n 0, 1) := by decide +kernel
theorem dX6_heldThen_10 : decode cX6_heldThen 10 = .ok (.getfield 9, 3) := by decide +kernel
theorem dX6_heldThen_13 : decode cX6_heldThen 13 = .ok (.iconst 2, 1) := by decide +kernel
theorem dX6_heldThen_14 : decode cX6_heldThen 14 = .ok (.iaload, 1) := by decide +kernel
theorem dX6_heldThen_15 : decode cX6_heldThen 15 = .ok (.iload_n 1, 1) := by decide +kernel
theorem dX6_heldThen_16 : decode cX6_heldThen 16 = .ok (.ishr, 1) := by decide +kernel
theorem dX6_heldThen_17 : decode cX6_heldThen 17 = .ok (.iconst 1, 1) := by decide +kernel
theorem dX6_heldThen_18 : decode cX6_heldThen 18 = .ok (.iand, 1) := by decide +kernel
theorem dX6_heldThen_19 : decode cX6_heldThen 19 = .ok (.istore_n 2, 1) := by decide +kernel
theorem dX6_heldThen_20 : decode cX6_heldThen 20 = .ok (.aload_n 0, 1) := by decide +kernel
theorem dX6_heldThen_21 : decode cX6_heldThen 21 = .ok (.invokevirtual 123, 3) := by decide +kernel
theorem dX6_heldThen_24 : decode cX6_heldThen 24 = .ok (.iload_n 2, 1) := by decide +kernel
theorem dX6_heldThen_25 : decode cX6_heldThen 25 = .ok (.ireturn, 1) := by decide +kernel
theorem dX6_swing_0 : decode cX6_swing 0 = .ok (.aload_n 0, 1) := by decide +kernel
theorem dX6_swing_1 : decode cX6_swing 1 = .ok (.invokevirtual 120, 3) := by decide +kernel
theorem dX6_swing_4 : decode cX6_swing 4 = .ok (.aload_n 0, 1) := by decide +kernel
theorem dX6_swing_5 : decode cX6_swing 5 = .ok (.invokevirtual 138, 3) := by decide +kernel
theorem dX6_swing_8 : decode cX6_swing 8 = .ok (.istore_n 1, 1) := by decide +kernel
theorem dX6_swing_9 : decode cX6_swing 9 = .ok (.iconst (-1), 1) := by decide +kernel
theorem dX6_swing_10 : decode cX6_swing 10 = .ok (.istore_n 2, 1) := by decide +kernel
theorem dX6_swing_11 : decode cX6_swing 11 = .ok (.iconst 0, 1) := by decide +kernel
theorem dX6_swing_12 : decode cX6_swing 12 = .ok (.istore_n 3, 1) := by decide +kernel
theorem dX6_swing_13 : decode cX6_swing 13 = .ok (.iload_n 3, 1) := by decide +kernel
theorem dX6_swing_14 : decode cX6_swing 14 = .ok (.aload_n 0, 1) := by decide +kernel
theorem dX6_swing_15 : decode cX6_swing 15 = .ok (.getfield 9, 3) := by decide +kernel
theorem dX6_swing_18 : decode cX6_swing 18 = .ok (.iconst 3, 1) := by decide +kernel
theorem dX6_swing_19 : decode cX6_swing 19 = .ok (.iaload, 1) := by decide +kernel
theorem dX6_swing_20 : decode cX6_swing 20 = .ok (.if_icmp .ge 44, 3) := by decide +kernel
theorem dX6_swing_23 : decode cX6_swing 23 = .ok (.iload_n 2, 1) := by decide +kernel
theorem dX6_swing_24 : decode cX6_swing 24 = .ok (.ifCond .ge 40, 3) := by decide +kernel
theorem dX6_swing_27 : decode cX6_swing 27 = .ok (.aload_n 0, 1) := by decide +kernel
theorem dX6_swing_28 : decode cX6_swing 28 = .ok (.iload_n 3, 1) := by decide +kernel
theorem dX6_swing_29 : decode cX6_swing 29 = .ok (.iconst 5, 1) := by decide +kernel
theorem dX6_swing_30 : decode cX6_swing 30 = .ok (.invokevirtual 48, 3) := by decide +kernel
theorem dX6_swing_33 : decode cX6_swing 33 = .ok (.iconst 1, 1) := by decide +kernel
theorem dX6_swing_34 : decode cX6_swing 34 = .ok (.if_icmp .ne 24, 3) := by decide +kernel
theorem dX6_swing_37 : decode cX6_swing 37 = .ok (.aload_n 0, 1) := by decide +kernel
theorem dX6_swing_38 : decode cX6_swing 38 = .ok (.iload_n 3, 1) := by decide +kernel
theorem dX6_swing_39 : decode cX6_swing 39 = .ok (.iconst 5, 1) := by decide +kernel
theorem dX6_swing_40 : decode cX6_swing 40 = .ok (.iconst 0, 1) := by decide +kernel
theorem dX6_swing_41 : decode cX6_swing 41 = .ok (.invokevirtual 74, 3) := by decide +kernel
theorem dX6_swing_44 : decode cX6_swing 44 = .ok (.aload_n 0, 1) := by decide +kernel
theorem dX6_swing_45 : decode cX6_swing 45 = .ok (.invokevirtual 138, 3) := by decide +kernel
theorem dX6_swing_48 : decode cX6_swing 48 = .ok (.iload_n 1, 1) := by decide +kernel
theorem dX6_swing_49 : decode cX6_swing 49 = .ok (.if_icmp .eq 7, 3) := by decide +kernel
theorem dX6_swing_52 : decode cX6_swing 52 = .ok (.iload_n 3, 1) := by decide +kernel
theorem dX6_swing_53 : decode cX6_swing 53 = .ok (.goto 4, 3) := by decide +kernel
theorem dX6_swing_56 : decode cX6_swing 56 = .ok (.iconst (-1), 1) := by decide +kernel
theorem dX6_swing_57 : decode cX6_swing 57 = .ok (.istore_n 2, 1) := by decide +kernel
theorem dX6_swing_58 : decode cX6_swing 58 = .ok (.iinc 3 1, 3) := by decide +kernel
theorem dX6_swing_61 : decode cX6_swing 61 = .ok (.goto (-48), 3) := by decide +kernel
theorem dX6_swing_64 : decode cX6_swing 64 = .ok (.aload_n 0, 1) := by decide +kernel
theorem dX6_swing_65 : decode cX6_swing 65 = .ok (.iload_n 2, 1) := by decide +kernel
theorem dX6_swing_66 : decode cX6_swing 66 = .ok (.invokevirtual 132, 3) := by decide +kernel
theorem dX6_swing_69 : decode cX6_swing 69 = .ok (.ireturn, 1) := by decide +kernel
theorem dX6_sums_0 : decode cX6_sums 0 = .ok (.iconst 0, 1) := by decide +kernel
theorem dX6_sums_1 : decode cX6_sums 1 = .ok (.istore_n 2, 1) := by decide +kernel
theorem dX6_sums_2 : decode cX6_sums 2 = .ok (.iconst 0, 1) := by decide +kernel
theorem dX6_sums_3 : decode cX6_sums 3 = .ok (.istore_n 3, 1) := by decide +kernel
theorem dX6_sums_4 : decode cX6_sums 4 = .ok (.iload_n 3, 1) := by decide +kernel
theorem dX6_sums_5 : decode cX6_sums 5 = .ok (.aload_n 0, 1) := by decide +kernel
theorem dX6_sums_6 : decode cX6_sums 6 = .ok (.getfield 9, 3) := by decide +kernel
theorem dX6_sums_9 : decode cX6_sums 9 = .ok (.iconst 3, 1) := by decide +kernel
theorem dX6_sums_10 : decode cX6_sums 10 = .ok (.iaload, 1) := by decide +kernel
theorem dX6_sums_11 : decode cX6_sums 11 = .ok (.if_icmp .ge 18, 3) := by decide +kernel
theorem dX6_sums_14 : decode cX6_sums 14 = .ok (.iload_n 2, 1) := by decide +kernel
theorem dX6_sums_15 : decode cX6_sums 15 = .ok (.aload_n 0, 1) := by decide +kernel
theorem dX6_sums_16 : decode cX6_sums 16 = .ok (.iload_n 3, 1) := by decide +kernel
theorem dX6_sums_17 : decode cX6_sums 17 = .ok (.iload_n 1, 1) := by decide +kernel
theorem dX6_sums_18 : decode cX6_sums 18 = .ok (.invokevirtual 48, 3) := by decide +kernel
theorem dX6_sums_21 : decode cX6_sums 21 = .ok (.iadd, 1) := by decide +kernel
theorem dX6_sums_22 : decode cX6_sums 22 = .ok (.istore_n 2, 1) := by decide +kernel
theorem dX6_sums_23 : decode cX6_sums 23 = .ok (.iinc 3 1, 3) := by decide +kernel
theorem dX6_sums_26 : decode cX6_sums 26 = .ok (.goto (-22), 3) := by decide +kernel
theorem dX6_sums_29 : decode cX6_sums 29 = .ok (.iload_n 2, 1) := by decide +kernel
theorem dX6_sums_30 : decode cX6_sums 30 = .ok (.ireturn, 1) := by decide +kernel
theorem dX6_revise_0 : decode cX6_revise 0 = .ok (.iload_n 1, 1) := by decide +kernel
theorem dX6_revise_1 : decode cX6_revise 1 = .ok (.i2l, 1) := by decide +kernel
theorem dX6_revise_2 : decode cX6_revise 2 = .ok (.iconst 1, 1) := by decide +kernel
theorem dX6_revise_3 : decode cX6_revise 3 = .ok (.bipush 60, 2) := by decide +kernel
theorem dX6_revise_5 : decode cX6_revise 5 = .ok (.invokestatic 44, 3) := by decide +kernel
theorem dX6_revise_8 : decode cX6_revise 8 = .ok (.ifCond .ne 10, 3) := by decide +kernel
theorem dX6_revise_11 : decode cX6_revise 11 = .ok (.aload_n 0, 1) := by decide +kernel
theorem dX6_revise_12 : decode cX6_revise 12 = .ok (.ldc 38, 2) := by decide +kernel
theorem dX6_revise_14 : decode cX6_revise 14 = .ok (.invokevirtual 40, 3) := by decide +kernel
theorem dX6_revise_17 : decode cX6_revise 17 = .ok (.ireturn, 1) := by decide +kernel
theorem dX6_revise_18 : decode cX6_revise 18 = .ok (.aload_n 0, 1) := by decide +kernel
theorem dX6_revise_19 : decode cX6_revise 19 = .ok (.invokevirtual 120, 3) := by decide +kernel
theorem dX6_revise_22 : decode cX6_revise 22 = .ok (.iconst (-1), 1) := by decide +kernel
theorem dX6_revise_23 : decode cX6_revise 23 = .ok (.istore_n 2, 1) := by decide +kernel
theorem dX6_revise_24 : decode cX6_revise 24 = .ok (.iconst 0, 1) := by decide +kernel
theorem dX6_revise_25 : decode cX6_revise 25 = .ok (.istore_n 3, 1) := by decide +kernel
theorem dX6_revise_26 : decode cX6_revise 26 = .ok (.iconst 0, 1) := by decide +kernel
theorem dX6_revise_27 : decode cX6_revise 27 = .ok (.istore 4, 2) := by decide +kernel
theorem dX6_revise_29 : decode cX6_revise 29 = .ok (.iload 4, 2) := by decide +kernel
theorem dX6_revise_31 : decode cX6_revise 31 = .ok (.bipush 8, 2) := by decide +kernel
theorem dX6_revise_33 : decode cX6_revise 33 = .ok (.if_icmp .ge 79, 3) := by decide +kernel
theorem dX6_revise_36 : decode cX6_revise 36 = .ok (.aload_n 0, 1) := by decide +kernel
theorem dX6_revise_37 : decode cX6_revise 37 = .ok (.getfield 9, 3) := by decide +kernel
theorem dX6_revise_40 : decode cX6_revise 40 = .ok (.iconst 1, 1) := by decide +kernel
theorem dX6_revise_41 : decode cX6_revise 41 = .ok (.dup2, 1) := by decide +kernel
theorem dX6_revise_42 : decode cX6_revise 42 = .ok (.iaload, 1) := by decide +kernel
theorem dX6_revise_43 : decode cX6_revise 43 = .ok (.iconst 1, 1) := by decide +kernel
theorem dX6_revise_44 : decode cX6_revise 44 = .ok (.iload 4, 2) := by decide +kernel
theorem dX6_revise_46 : decode cX6_revise 46 = .ok (.ishl, 1) := by decide +kernel
theorem dX6_revise_47 : decode cX6_revise 47 = .ok (.ixor, 1) := by decide +kernel
theorem dX6_revise_48 : decode cX6_revise 48 = .ok (.iastore, 1) := by decide +kernel
theorem dX6_revise_49 : decode cX6_revise 49 = .ok (.aload_n 0, 1) := by decide +kernel
theorem dX6_revise_50 : decode cX6_revise 50 = .ok (.iload_n 1, 1) := by decide +kernel
theorem dX6_revise_51 : decode cX6_revise 51 = .ok (.invokevirtual 112, 3) := by decide +kernel
theorem dX6_revise_54 : decode cX6_revise 54 = .ok (.aload_n 0, 1) := by decide +kernel
theorem dX6_revise_55 : decode cX6_revise 55 = .ok (.iconst 3, 1) := by decide +kernel
theorem dX6_revise_56 : decode cX6_revise 56 = .ok (.invokevirtual 141, 3) := by decide +kernel
theorem dX6_revise_59 : decode cX6_revise 59 = .ok (.istore 5, 2) := by decide +kernel
theorem dX6_revise_61 : decode cX6_revise 61 = .ok (.aload_n 0, 1) := by decide +kernel
theorem dX6_revise_62 : decode cX6_revise 62 = .ok (.invokevirtual 123, 3) := by decide +kernel
theorem dX6_revise_65 : decode cX6_revise 65 = .ok (.iload_n 2, 1) := by decide +kernel
theorem dX6_revise_66 : decode cX6_revise 66 = .ok (.ifCond .lt 9, 3) := by decide +kernel
theorem dX6_revise_69 : decode cX6_revise 69 = .ok (.iload 5, 2) := by decide +kernel
theorem dX6_revise_71 : decode cX6_revise 71 = .ok (.iload_n 3, 1) := by decide +kernel
theorem dX6_revise_72 : decode cX6_revise 72 = .ok (.if_icmp .ge 7, 3) := by decide +kernel
theorem dX6_revise_75 : decode cX6_revise 75 = .ok (.iconst 1, 1) := by decide +kernel
theorem dX6_revise_76 : decode cX6_revise 76 = .ok (.goto 4, 3) := by decide +kernel
theorem dX6_revise_79 : decode cX6_revise 79 = .ok (.iconst 0, 1) := by decide +kernel
theorem dX6_revise_80 : decode cX6_revise 80 = .ok (.istore 6, 2) := by decide +kernel
theorem dX6_revise_82 : decode cX6_revise 82 = .ok (.iload 6, 2) := by decide +kernel
theorem dX6_revise_84 : decode cX6_revise 84 = .ok (.ifCond .eq 8, 3) := by decide +kernel
theorem dX6_revise_87 : decode cX6_revise 87 = .ok (.iload 4, 2) := by decide +kernel
theorem dX6_revise_89 : decode cX6_revise 89 = .ok (.goto 4, 3) := by decide +kernel
theorem dX6_revise_92 : decode cX6_revise 92 = .ok (.iload_n 2, 1) := by decide +kernel
theorem dX6_revise_93 : decode cX6_revise 93 = .ok (.istore_n 2, 1) := by decide +kernel
theorem dX6_revise_94 : decode cX6_revise 94 = .ok (.iload 6, 2) := by decide +kernel
theorem dX6_revise_96 : decode cX6_revise 96 = .ok (.ifCond .eq 8, 3) := by decide +kernel
theorem dX6_revise_99 : decode cX6_revise 99 = .ok (.iload 5, 2) := by decide +kernel
theorem dX6_revise_101 : decode cX6_revise 101 = .ok (.goto 4, 3) := by decide +kernel
theorem dX6_revise_104 : decode cX6_revise 104 = .ok (.iload_n 3, 1) := by decide +kernel
theorem dX6_revise_105 : decode cX6_revise 105 = .ok (.istore_n 3, 1) := by decide +kernel
theorem dX6_revise_106 : decode cX6_revise 106 = .ok (.iinc 4 1, 3) := by decide +kernel
theorem dX6_revise_109 : decode cX6_revise 109 = .ok (.goto (-80), 3) := by decide +kernel
theorem dX6_revise_112 : decode cX6_revise 112 = .ok (.iload_n 2, 1) := by decide +kernel
theorem dX6_revise_113 : decode cX6_revise 113 = .ok (.ireturn, 1) := by decide +kernel
theorem dX6_merit_0 : decode cX6_merit 0 = .ok (.aload_n 0, 1) := by decide +kernel
theorem dX6_merit_1 : decode cX6_merit 1 = .ok (.iload_n 1, 1) := by decide +kernel
theorem dX6_merit_2 : decode cX6_merit 2 = .ok (.iconst 2, 1) := by decide +kernel
theorem dX6_merit_3 : decode cX6_merit 3 = .ok (.invokevirtual 48, 3) := by decide +kernel
theorem dX6_merit_6 : decode cX6_merit 6 = .ok (.aload_n 0, 1) := by decide +kernel
theorem dX6_merit_7 : decode cX6_merit 7 = .ok (.iload_n 1, 1) := by decide +kernel
theorem dX6_merit_8 : decode cX6_merit 8 = .ok (.iconst 3, 1) := by decide +kernel
theorem dX6_merit_9 : decode cX6_merit 9 = .ok (.invokevirtual 48, 3) := by decide +kernel
theorem dX6_merit_12 : decode cX6_merit 12 = .ok (.isub, 1) := by decide +kernel
theorem dX6_merit_13 : decode cX6_merit 13 = .ok (.ireturn, 1) := by decide +kernel
theorem dX6_best_0 : decode cX6_best 0 = .ok (.iload_n 1, 1) := by decide +kernel
theorem dX6_best_1 : decode cX6_best 1 = .ok (.i2l, 1) := by decide +kernel
theorem dX6_best_2 : decode cX6_best 2 = .ok (.iconst 0, 1) := by decide +kernel
theorem dX6_best_3 : decode cX6_best 3 = .ok (.sipush 200, 3) := by decide +kernel
theorem dX6_best_6 : decode cX6_best 6 = .ok (.invokestatic 44, 3) := by decide +kernel
theorem dX6_best_9 : decode cX6_best 9 = .ok (.ifCond .ne 10, 3) := by decide +kernel
theorem dX6_best_12 : decode cX6_best 12 = .ok (.aload_n 0, 1) := by decide +kernel
theorem dX6_best_13 : decode cX6_best 13 = .ok (.ldc 38, 2) := by decide +kernel
theorem dX6_best_15 : decode cX6_best 15 = .ok (.invokevirtual 40, 3) := by decide +kernel
theorem dX6_best_18 : decode cX6_best 18 = .ok (.ireturn, 1) := by decide +kernel
theorem dX6_best_19 : decode cX6_best 19 = .ok (.aload_n 0, 1) := by decide +kernel
theorem dX6_best_20 : decode cX6_best 20 = .ok (.invokevirtual 120, 3) := by decide +kernel
theorem dX6_best_23 : decode cX6_best 23 = .ok (.aload_n 0, 1) := by decide +kernel
theorem dX6_best_24 : decode cX6_best 24 = .ok (.iload_n 1, 1) := by decide +kernel
theorem dX6_best_25 : decode cX6_best 25 = .ok (.invokevirtual 112, 3) := by decide +kernel
theorem dX6_best_28 : decode cX6_best 28 = .ok (.iconst (-1), 1) := by decide +kernel
theorem dX6_best_29 : decode cX6_best 29 = .ok (.istore_n 2, 1) := by decide +kernel
theorem dX6_best_30 : decode cX6_best 30 = .ok (.iconst 0, 1) := by decide +kernel
theorem dX6_best_31 : decode cX6_best 31 = .ok (.istore_n 3, 1) := by decide +kernel
theorem dX6_best_32 : decode cX6_best 32 = .ok (.iload_n 3, 1) := by decide +kernel
theorem dX6_best_33 : decode cX6_best 33 = .ok (.aload_n 0, 1) := by decide +kernel
theorem dX6_best_34 : decode cX6_best 34 = .ok (.getfield 9, 3) := by decide +kernel
theorem dX6_best_37 : decode cX6_best 37 = .ok (.iconst 3, 1) := by decide +kernel
theorem dX6_best_38 : decode cX6_best 38 = .ok (.iaload, 1) := by decide +kernel
theorem dX6_best_39 : decode cX6_best 39 = .ok (.if_icmp .ge 32, 3) := by decide +kernel
theorem dX6_best_42 : decode cX6_best 42 = .ok (.iload_n 2, 1) := by decide +kernel
theorem dX6_best_43 : decode cX6_best 43 = .ok (.ifCond .lt 16, 3) := by decide +kernel
theorem dX6_best_46 : decode cX6_best 46 = .ok (.aload_n 0, 1) := by decide +kernel
theorem dX6_best_47 : decode cX6_best 47 = .ok (.iload_n 3, 1) := by decide +kernel
theorem dX6_best_48 : decode cX6_best 48 = .ok (.invokevirtual 144, 3) := by decide +kernel
theorem dX6_best_51 : decode cX6_best 51 = .ok (.aload_n 0, 1) := by decide +kernel
theorem dX6_best_52 : decode cX6_best 52 = .ok (.iload_n 2, 1) := by decide +kernel
theorem dX6_best_53 : decode cX6_best 53 = .ok (.invokevirtual 144, 3) := by decide +kernel
theorem dX6_best_56 : decode cX6_best 56 = .ok (.if_icmp .le 7, 3) := by decide +kernel
theorem dX6_best_59 : decode cX6_best 59 = .ok (.iload_n 3, 1) := by decide +kernel
theorem dX6_best_60 : decode cX6_best 60 = .ok (.goto 4, 3) := by decide +kernel
theorem dX6_best_63 : decode cX6_best 63 = .ok (.iload_n 2, 1) := by decide +kernel
theorem dX6_best_64 : decode cX6_best 64 = .ok (.istore_n 2, 1) := by decide +kernel
theorem dX6_best_65 : decode cX6_best 65 = .ok (.iinc 3 1, 3) := by decide +kernel
theorem dX6_best_68 : decode cX6_best 68 = .ok (.goto (-36), 3) := by decide +kernel
theorem dX6_best_71 : decode cX6_best 71 = .ok (.aload_n 0, 1) := by decide +kernel
theorem dX6_best_72 : decode cX6_best 72 = .ok (.invokevirtual 123, 3) := by decide +kernel
theorem dX6_best_75 : decode cX6_best 75 = .ok (.aload_n 0, 1) := by decide +kernel
theorem dX6_best_76 : decode cX6_best 76 = .ok (.iload_n 2, 1) := by decide +kernel
theorem dX6_best_77 : decode cX6_best 77 = .ok (.invokevirtual 132, 3) := by decide +kernel
theorem dX6_best_80 : decode cX6_best 80 = .ok (.ireturn, 1) := by decide +kernel
theorem dX6_feed_0 : decode cX6_feed 0 = .ok (.iload_n 2, 1) := by decide +kernel
theorem dX6_feed_1 : decode cX6_feed 1 = .ok (.i2l, 1) := by decide +kernel
theorem dX6_feed_2 : decode cX6_feed 2 = .ok (.iconst 1, 1) := by decide +kernel
theorem dX6_feed_3 : decode cX6_feed 3 = .ok (.iconst 4, 1) := by decide +kernel
theorem dX6_feed_4 : decode cX6_feed 4 = .ok (.invokestatic 44, 3) := by decide +kernel
theorem dX6_feed_7 : decode cX6_feed 7 = .ok (.ifCond .ne 10, 3) := by decide +kernel
theorem dX6_feed_10 : decode cX6_feed 10 = .ok (.aload_n 0, 1) := by decide +kernel
theorem dX6_feed_11 : decode cX6_feed 11 = .ok (.ldc 38, 2) := by decide +kernel
theorem dX6_feed_13 : decode cX6_feed 13 = .ok (.invokevirtual 40, 3) := by decide +kernel
theorem dX6_feed_16 : decode cX6_feed 16 = .ok (.ireturn, 1) := by decide +kernel
theorem dX6_feed_17 : decode cX6_feed 17 = .ok (.aload_n 0, 1) := by decide +kernel
theorem dX6_feed_18 : decode cX6_feed 18 = .ok (.getfield 147, 3) := by decide +kernel
theorem dX6_feed_21 : decode cX6_feed 21 = .ok (.iload_n 2, 1) := by decide +kernel
theorem dX6_feed_22 : decode cX6_feed 22 = .ok (.iadd, 1) := by decide +kernel
theorem dX6_feed_23 : decode cX6_feed 23 = .ok (.bipush 120, 2) := by decide +kernel
theorem dX6_feed_25 : decode cX6_feed 25 = .ok (.if_icmp .le 10, 3) := by decide +kernel
theorem dX6_feed_28 : decode cX6_feed 28 = .ok (.aload_n 0, 1) := by decide +kernel
theorem dX6_feed_29 : decode cX6_feed 29 = .ok (.ldc 78, 2) := by decide +kernel
theorem dX6_feed_31 : decode cX6_feed 31 = .ok (.invokevirtual 40, 3) := by decide +kernel
theorem dX6_feed_34 : decode cX6_feed 34 = .ok (.ireturn, 1) := by decide +kernel
theorem dX6_feed_35 : decode cX6_feed 35 = .ok (.iload_n 2, 1) := by decide +kernel
theorem dX6_feed_36 : decode cX6_feed 36 = .ok (.iconst 1, 1) := by decide +kernel
theorem dX6_feed_37 : decode cX6_feed 37 = .ok (.isub, 1) := by decide +kernel
theorem dX6_feed_38 : decode cX6_feed 38 = .ok (.istore_n 3, 1) := by decide +kernel
theorem dX6_feed_39 : decode cX6_feed 39 = .ok (.iload_n 3, 1) := by decide +kernel
theorem dX6_feed_40 : decode cX6_feed 40 = .ok (.ifCond .lt 38, 3) := by decide +kernel
theorem dX6_feed_43 : decode cX6_feed 43 = .ok (.aload_n 0, 1) := by decide +kernel
theorem dX6_feed_44 : decode cX6_feed 44 = .ok (.getfield 25, 3) := by decide +kernel
theorem dX6_feed_47 : decode cX6_feed 47 = .ok (.aload_n 0, 1) := by decide +kernel
theorem dX6_feed_48 : decode cX6_feed 48 = .ok (.getfield 147, 3) := by decide +kernel
theorem dX6_feed_51 : decode cX6_feed 51 = .ok (.iload_n 1, 1) := by decide +kernel
theorem dX6_feed_52 : decode cX6_feed 52 = .ok (.bipush 8, 2) := by decide +kernel
theorem dX6_feed_54 : decode cX6_feed 54 = .ok (.iload_n 3, 1) := by decide +kernel
theorem dX6_feed_55 : decode cX6_feed 55 = .ok (.imul, 1) := by decide +kernel
theorem dX6_feed_56 : decode cX6_feed 56 = .ok (.ishr, 1) := by decide +kernel
theorem dX6_feed_57 : decode cX6_feed 57 = .ok (.sipush 255, 3) := by decide +kernel
theorem dX6_feed_60 : decode cX6_feed 60 = .ok (.iand, 1) := by decide +kernel
theorem dX6_feed_61 : decode cX6_feed 61 = .ok (.iastore, 1) := by decide +kernel
theorem dX6_feed_62 : decode cX6_feed 62 = .ok (.aload_n 0, 1) := by decide +kernel
theorem dX6_feed_63 : decode cX6_feed 63 = .ok (.dup, 1) := by decide +kernel
theorem dX6_feed_64 : decode cX6_feed 64 = .ok (.getfield 147, 3) := by decide +kernel
theorem dX6_feed_67 : decode cX6_feed 67 = .ok (.iconst 1, 1) := by decide +kernel
theorem dX6_feed_68 : decode cX6_feed 68 = .ok (.iadd, 1) := by decide +kernel
theorem dX6_feed_69 : decode cX6_feed 69 = .ok (.putfield 147, 3) := by decide +kernel
theorem dX6_feed_72 : decode cX6_feed 72 = .ok (.iinc 3 (-1), 3) := by decide +kernel
theorem dX6_feed_75 : decode cX6_feed 75 = .ok (.goto (-36), 3) := by decide +kernel
theorem dX6_feed_78 : decode cX6_feed 78 = .ok (.aload_n 0, 1) := by decide +kernel
theorem dX6_feed_79 : decode cX6_feed 79 = .ok (.getfield 147, 3) := by decide +kernel
theorem dX6_feed_82 : decode cX6_feed 82 = .ok (.ireturn, 1) := by decide +kernel
theorem dX6_wipe_0 : decode cX6_wipe 0 = .ok (.aload_n 0, 1) := by decide +kernel
theorem dX6_wipe_1 : decode cX6_wipe 1 = .ok (.getfield 147, 3) := by decide +kernel
theorem dX6_wipe_4 : decode cX6_wipe 4 = .ok (.istore_n 1, 1) := by decide +kernel
theorem dX6_wipe_5 : decode cX6_wipe 5 = .ok (.aload_n 0, 1) := by decide +kernel
theorem dX6_wipe_6 : decode cX6_wipe 6 = .ok (.iconst 0, 1) := by decide +kernel
theorem dX6_wipe_7 : decode cX6_wipe 7 = .ok (.putfield 147, 3) := by decide +kernel
theorem dX6_wipe_10 : decode cX6_wipe 10 = .ok (.iload_n 1, 1) := by decide +kernel
theorem dX6_wipe_11 : decode cX6_wipe 11 = .ok (.ireturn, 1) := by decide +kernel
theorem dX6_isByte_0 : decode cX6_isByte 0 = .ok (.iload_n 1, 1) := by decide +kernel
theorem dX6_isByte_1 : decode cX6_isByte 1 = .ok (.aload_n 0, 1) := by decide +kernel
theorem dX6_isByte_2 : decode cX6_isByte 2 = .ok (.getfield 147, 3) := by decide +kernel
theorem dX6_isByte_5 : decode cX6_isByte 5 = .ok (.if_icmp .ge 22, 3) := by decide +kernel
theorem dX6_isByte_8 : decode cX6_isByte 8 = .ok (.aload_n 0, 1) := by decide +kernel
theorem dX6_isByte_9 : decode cX6_isByte 9 = .ok (.getfield 25, 3) := by decide +kernel
theorem dX6_isByte_12 : decode cX6_isByte 12 = .ok (.iload_n 1, 1) := by decide +kernel
theorem dX6_isByte_13 : decode cX6_isByte 13 = .ok (.iaload, 1) := by decide +kernel
theorem dX6_isByte_14 : decode cX6_isByte 14 = .ok (.i2l, 1) := by decide +kernel
theorem dX6_isByte_15 : decode cX6_isByte 15 = .ok (.iload_n 2, 1) := by decide +kernel
theorem dX6_isByte_16 : decode cX6_isByte 16 = .ok (.iload_n 3, 1) := by decide +kernel
theorem dX6_isByte_17 : decode cX6_isByte 17 = .ok (.invokestatic 44, 3) := by decide +kernel
theorem dX6_isByte_20 : decode cX6_isByte 20 = .ok (.ifCond .eq 7, 3) := by decide +kernel
theorem dX6_isByte_23 : decode cX6_isByte 23 = .ok (.iconst 1, 1) := by decide +kernel
theorem dX6_isByte_24 : decode cX6_isByte 24 = .ok (.goto 4, 3) := by decide +kernel
theorem dX6_isByte_27 : decode cX6_isByte 27 = .ok (.iconst 0, 1) := by decide +kernel
theorem dX6_isByte_28 : decode cX6_isByte 28 = .ok (.ireturn, 1) := by decide +kernel
theorem dX6_isName_0 : decode cX6_isName 0 = .ok (.iload_n 2, 1) := by decide +kernel
theorem dX6_isName_1 : decode cX6_isName 1 = .ok (.bipush 7, 2) := by decide +kernel
theorem dX6_isName_3 : decode cX6_isName 3 = .ok (.if_icmp .gt 26, 3) := by decide +kernel
theorem dX6_isName_6 : decode cX6_isName 6 = .ok (.iload_n 2, 1) := by decide +kernel
theorem dX6_isName_7 : decode cX6_isName 7 = .ok (.bipush 7, 2) := by decide +kernel
theorem dX6_isName_9 : decode cX6_isName 9 = .ok (.if_icmp .eq 16, 3) := by decide +kernel
theorem dX6_isName_12 : decode cX6_isName 12 = .ok (.getstatic 151, 3) := by decide +kernel
theorem dX6_isName_15 : decode cX6_isName 15 = .ok (.bipush 7, 2) := by decide +kernel
theorem dX6_isName_17 : decode cX6_isName 17 = .ok (.iload_n 1, 1) := by decide +kernel
theorem dX6_isName_18 : decode cX6_isName 18 = .ok (.imul, 1) := by decide +kernel
theorem dX6_isName_19 : decode cX6_isName 19 = .ok (.iload_n 2, 1) := by decide +kernel
theorem dX6_isName_20 : decode cX6_isName 20 = .ok (.iadd, 1) := by decide +kernel
theorem dX6_isName_21 : decode cX6_isName 21 = .ok (.iaload, 1) := by decide +kernel
theorem dX6_isName_22 : decode cX6_isName 22 = .ok (.ifCond .ne 7, 3) := by decide +kernel
theorem dX6_isName_25 : decode cX6_isName 25 = .ok (.iconst 1, 1) := by decide +kernel
theorem dX6_isName_26 : decode cX6_isName 26 = .ok (.goto 4, 3) := by decide +kernel
theorem dX6_isName_29 : decode cX6_isName 29 = .ok (.iconst 0, 1) := by decide +kernel
theorem dX6_isName_30 : decode cX6_isName 30 = .ok (.istore_n 3, 1) := by decide +kernel
theorem dX6_isName_31 : decode cX6_isName 31 = .ok (.iconst 0, 1) := by decide +kernel
theorem dX6_isName_32 : decode cX6_isName 32 = .ok (.istore 4, 2) := by decide +kernel
theorem dX6_isName_34 : decode cX6_isName 34 = .ok (.iload 4, 2) := by decide +kernel
theorem dX6_isName_36 : decode cX6_isName 36 = .ok (.iload_n 2, 1) := by decide +kernel
theorem dX6_isName_37 : decode cX6_isName 37 = .ok (.if_icmp .ge 45, 3) := by decide +kernel
theorem dX6_isName_40 : decode cX6_isName 40 = .ok (.iload_n 3, 1) := by decide +kernel
theorem dX6_isName_41 : decode cX6_isName 41 = .ok (.ifCond .eq 41, 3) := by decide +kernel
theorem dX6_isName_44 : decode cX6_isName 44 = .ok (.getstatic 151, 3) := by decide +kernel
theorem dX6_isName_47 : decode cX6_isName 47 = .ok (.bipush 7, 2) := by decide +kernel
theorem dX6_isName_49 : decode cX6_isName 49 = .ok (.iload_n 1, 1) := by decide +kernel
theorem dX6_isName_50 : decode cX6_isName 50 = .ok (.imul, 1) := by decide +kernel
theorem dX6_isName_51 : decode cX6_isName 51 = .ok (.iload 4, 2) := by decide +kernel
theorem dX6_isName_53 : decode cX6_isName 53 = .ok (.iadd, 1) := by decide +kernel
theorem dX6_isName_54 : decode cX6_isName 54 = .ok (.iaload, 1) := by decide +kernel
theorem dX6_isName_55 : decode cX6_isName 55 = .ok (.aload_n 0, 1) := by decide +kernel
theorem dX6_isName_56 : decode cX6_isName 56 = .ok (.getfield 25, 3) := by decide +kernel
theorem dX6_isName_59 : decode cX6_isName 59 = .ok (.aload_n 0, 1) := by decide +kernel
theorem dX6_isName_60 : decode cX6_isName 60 = .ok (.getfield 154, 3) := by decide +kernel
theorem dX6_isName_63 : decode cX6_isName 63 = .ok (.iload 4, 2) := by decide +kernel
theorem dX6_isName_65 : decode cX6_isName 65 = .ok (.iadd, 1) := by decide +kernel
theorem dX6_isName_66 : decode cX6_isName 66 = .ok (.iaload, 1) := by decide +kernel
theorem dX6_isName_67 : decode cX6_isName 67 = .ok (.if_icmp .ne 7, 3) := by decide +kernel
theorem dX6_isName_70 : decode cX6_isName 70 = .ok (.iconst 1, 1) := by decide +kernel
theorem dX6_isName_71 : decode cX6_isName 71 = .ok (.goto 4, 3) := by decide +kernel
theorem dX6_isName_74 : decode cX6_isName 74 = .ok (.iconst 0, 1) := by decide +kernel
theorem dX6_isName_75 : decode cX6_isName 75 = .ok (.istore_n 3, 1) := by decide +kernel
theorem dX6_isName_76 : decode cX6_isName 76 = .ok (.iinc 4 1, 3) := by decide +kernel
theorem dX6_isName_79 : decode cX6_isName 79 = .ok (.goto (-45), 3) := by decide +kernel
theorem dX6_isName_82 : decode cX6_isName 82 = .ok (.iload_n 3, 1) := by decide +kernel
theorem dX6_isName_83 : decode cX6_isName 83 = .ok (.ireturn, 1) := by decide +kernel
theorem dX6_wordHere_0 : decode cX6_wordHere 0 = .ok (.iconst 0, 1) := by decide +kernel
theorem dX6_wordHere_1 : decode cX6_wordHere 1 = .ok (.istore_n 1, 1) := by decide +kernel
theorem dX6_wordHere_2 : decode cX6_wordHere 2 = .ok (.iload_n 1, 1) := by decide +kernel
theorem dX6_wordHere_3 : decode cX6_wordHere 3 = .ok (.bipush 14, 2) := by decide +kernel
theorem dX6_wordHere_5 : decode cX6_wordHere 5 = .ok (.if_icmp .ge 26, 3) := by decide +kernel
theorem dX6_wordHere_8 : decode cX6_wordHere 8 = .ok (.aload_n 0, 1) := by decide +kernel
theorem dX6_wordHere_9 : decode cX6_wordHere 9 = .ok (.iload_n 1, 1) := by decide +kernel
theorem dX6_wordHere_10 : decode cX6_wordHere 10 = .ok (.aload_n 0, 1) := by decide +kernel
theorem dX6_wordHere_11 : decode cX6_wordHere 11 = .ok (.getfield 157, 3) := by decide +kernel
theorem dX6_wordHere_14 : decode cX6_wordHere 14 = .ok (.aload_n 0, 1) := by decide +kernel
theorem dX6_wordHere_15 : decode cX6_wordHere 15 = .ok (.getfield 154, 3) := by decide +kernel
theorem dX6_wordHere_18 : decode cX6_wordHere 18 = .ok (.isub, 1) := by decide +kernel
theorem dX6_wordHere_19 : decode cX6_wordHere 19 = .ok (.invokevirtual 160, 3) := by decide +kernel
theorem dX6_wordHere_22 : decode cX6_wordHere 22 = .ok (.ifCond .ne 9, 3) := by decide +kernel
theorem dX6_wordHere_25 : decode cX6_wordHere 25 = .ok (.iinc 1 1, 3) := by decide +kernel
theorem dX6_wordHere_28 : decode cX6_wordHere 28 = .ok (.goto (-26), 3) := by decide +kernel
theorem dX6_wordHere_31 : decode cX6_wordHere 31 = .ok (.iload_n 1, 1) := by decide +kernel
theorem dX6_wordHere_32 : decode cX6_wordHere 32 = .ok (.bipush 14, 2) := by decide +kernel
theorem dX6_wordHere_34 : decode cX6_wordHere 34 = .ok (.if_icmp .ge 7, 3) := by decide +kernel
theorem dX6_wordHere_37 : decode cX6_wordHere 37 = .ok (.iload_n 1, 1) := by decide +kernel
theorem dX6_wordHere_38 : decode cX6_wordHere 38 = .ok (.goto 5, 3) := by decide +kernel
theorem dX6_wordHere_41 : decode cX6_wordHere 41 = .ok (.bipush 23, 2) := by decide +kernel
theorem dX6_wordHere_43 : decode cX6_wordHere 43 = .ok (.ireturn, 1) := by decide +kernel
theorem dX6_reads_0 : decode cX6_reads 0 = .ok (.aload_n 0, 1) := by decide +kernel
theorem dX6_reads_1 : decode cX6_reads 1 = .ok (.aload_n 0, 1) := by decide +kernel
theorem dX6_reads_2 : decode cX6_reads 2 = .ok (.getfield 157, 3) := by decide +kernel
theorem dX6_reads_5 : decode cX6_reads 5 = .ok (.bipush 32, 2) := by decide +kernel
theorem dX6_reads_7 : decode cX6_reads 7 = .ok (.bipush 32, 2) := by decide +kernel
theorem dX6_reads_9 : decode cX6_reads 9 = .ok (.invokevirtual 164, 3) := by decide +kernel
theorem dX6_reads_12 : decode cX6_reads 12 = .ok (.ifCond .eq 16, 3) := by decide +kernel
theorem dX6_reads_15 : decode cX6_reads 15 = .ok (.aload_n 0, 1) := by decide +kernel
theorem dX6_reads_16 : decode cX6_reads 16 = .ok (.dup, 1) := by decide +kernel
theorem dX6_reads_17 : decode cX6_reads 17 = .ok (.getfield 157, 3) := by decide +kernel
theorem dX6_reads_20 : decode cX6_reads 20 = .ok (.iconst 1, 1) := by decide +kernel
theorem dX6_reads_21 : decode cX6_reads 21 = .ok (.iadd, 1) := by decide +kernel
theorem dX6_reads_22 : decode cX6_reads 22 = .ok (.putfield 157, 3) := by decide +kernel
theorem dX6_reads_25 : decode cX6_reads 25 = .ok (.goto (-25), 3) := by decide +kernel
theorem dX6_reads_28 : decode cX6_reads 28 = .ok (.aload_n 0, 1) := by decide +kernel
theorem dX6_reads_29 : decode cX6_reads 29 = .ok (.aload_n 0, 1) := by decide +kernel
theorem dX6_reads_30 : decode cX6_reads 30 = .ok (.getfield 157, 3) := by decide +kernel
theorem dX6_reads_33 : decode cX6_reads 33 = .ok (.putfield 154, 3) := by decide +kernel
theorem dX6_reads_36 : decode cX6_reads 36 = .ok (.aload_n 0, 1) := by decide +kernel
theorem dX6_reads_37 : decode cX6_reads 37 = .ok (.iconst 0, 1) := by decide +kernel
theorem dX6_reads_38 : decode cX6_reads 38 = .ok (.putfield 168, 3) := by decide +kernel
theorem dX6_reads_41 : decode cX6_reads 41 = .ok (.aload_n 0, 1) := by decide +kernel
theorem dX6_reads_42 : decode cX6_reads 42 = .ok (.getfield 157, 3) := by decide +kernel
theorem dX6_reads_45 : decode cX6_reads 45 = .ok (.aload_n 0, 1) := by decide +kernel
theorem dX6_reads_46 : decode cX6_reads 46 = .ok (.getfield 147, 3) := by decide +kernel
theorem dX6_reads_49 : decode cX6_reads 49 = .ok (.if_icmp .ne 12, 3) := by decide +kernel
theorem dX6_reads_52 : decode cX6_reads 52 = .ok (.aload_n 0, 1) := by decide +kernel
theorem dX6_reads_53 : decode cX6_reads 53 = .ok (.bipush 22, 2) := by decide +kernel
theorem dX6_reads_55 : decode cX6_reads 55 = .ok (.putfield 171, 3) := by decide +kernel
theorem dX6_reads_58 : decode cX6_reads 58 = .ok (.goto 186, 3) := by decide +kernel
theorem dX6_reads_61 : decode cX6_reads 61 = .ok (.aload_n 0, 1) := by decide +kernel
theorem dX6_reads_62 : decode cX6_reads 62 = .ok (.aload_n 0, 1) := by decide +kernel
theorem dX6_reads_63 : decode cX6_reads 63 = .ok (.getfield 157, 3) := by decide +kernel
theorem dX6_reads_66 : decode cX6_reads 66 = .ok (.bipush 97, 2) := by decide +kernel
theorem dX6_reads_68 : decode cX6_reads 68 = .ok (.bipush 122, 2) := by decide +kernel
theorem dX6_reads_70 : decode cX6_reads 70 = .ok (.invokevirtual 164, 3) := by decide +kernel
theorem dX6_reads_73 : decode cX6_reads 73 = .ok (.ifCond .eq 42, 3) := by decide +kernel
theorem dX6_reads_76 : decode cX6_reads 76 = .ok (.aload_n 0, 1) := by decide +kernel
theorem dX6_reads_77 : decode cX6_reads 77 = .ok (.aload_n 0, 1) := by decide +kernel
theorem dX6_reads_78 : decode cX6_reads 78 = .ok (.getfield 157, 3) := by decide +kernel
theorem dX6_reads_81 : decode cX6_reads 81 = .ok (.bipush 97, 2) := by decide +kernel
theorem dX6_reads_83 : decode cX6_reads 83 = .ok (.bipush 122, 2) := by decide +kernel
theorem dX6_reads_85 : decode cX6_reads 85 = .ok (.invokevirtual 164, 3) := by decide +kernel
theorem dX6_reads_88 : decode cX6_reads 88 = .ok (.ifCond .eq 16, 3) := by decide +kernel
theorem dX6_reads_91 : decode cX6_reads 91 = .ok (.aload_n 0, 1) := by decide +kernel
theorem dX6_reads_92 : decode cX6_reads 92 = .ok (.dup, 1) := by decide +kernel
theorem dX6_reads_93 : decode cX6_reads 93 = .ok (.getfield 157, 3) := by decide +kernel
theorem dX6_reads_96 : decode cX6_reads 96 = .ok (.iconst 1, 1) := by decide +kernel
theorem dX6_reads_97 : decode cX6_reads 97 = .ok (.iadd, 1) := by decide +kernel
theorem dX6_reads_98 : decode cX6_reads 98 = .ok (.putfield 157, 3) := by decide +kernel
theorem dX6_reads_101 : decode cX6_reads 101 = .ok (.goto (-25), 3) := by decide +kernel
theorem dX6_reads_104 : decode cX6_reads 104 = .ok (.aload_n 0, 1) := by decide +kernel
theorem dX6_reads_105 : decode cX6_reads 105 = .ok (.aload_n 0, 1) := by decide +kernel
theorem dX6_reads_106 : decode cX6_reads 106 = .ok (.invokevirtual 174, 3) := by decide +kernel
theorem dX6_reads_109 : decode cX6_reads 109 = .ok (.putfield 171, 3) := by decide +kernel
theorem dX6_reads_112 : decode cX6_reads 112 = .ok (.goto 132, 3) := by decide +kernel
theorem dX6_reads_115 : decode cX6_reads 115 = .ok (.aload_n 0, 1) := by decide +kernel
theorem dX6_reads_116 : decode cX6_reads 116 = .ok (.aload_n 0, 1) := by decide +kernel
theorem dX6_reads_117 : decode cX6_reads 117 = .ok (.getfield 157, 3) := by decide +kernel
theorem dX6_reads_120 : decode cX6_reads 120 = .ok (.bipush 48, 2) := by decide +kernel
theorem dX6_reads_122 : decode cX6_reads 122 = .ok (.bipush 57, 2) := by decide +kernel
theorem dX6_reads_124 : decode cX6_reads 124 = .ok (.invokevirtual 164, 3) := by decide +kernel
theorem dX6_reads_127 : decode cX6_reads 127 = .ok (.ifCond .eq 81, 3) := by decide +kernel
theorem dX6_reads_130 : decode cX6_reads 130 = .ok (.aload_n 0, 1) := by decide +kernel
theorem dX6_reads_131 : decode cX6_reads 131 = .ok (.aload_n 0, 1) := by decide +kernel
theorem dX6_reads_132 : decode cX6_reads 132 = .ok (.getfield 157, 3) := by decide +kernel
theorem dX6_reads_135 : decode cX6_reads 135 = .ok (.bipush 48, 2) := by decide +kernel
theorem dX6_reads_137 : decode cX6_reads 137 = .ok (.bipush 57, 2) := by decide +kernel
theorem dX6_reads_139 : decode cX6_reads 139 = .ok (.invokevirtual 164, 3) := by decide +kernel
theorem dX6_reads_142 : decode cX6_reads 142 = .ok (.ifCond .eq 57, 3) := by decide +kernel
theorem dX6_reads_145 : decode cX6_reads 145 = .ok (.aload_n 0, 1) := by decide +kernel
theorem dX6_reads_146 : decode cX6_reads 146 = .ok (.aload_n 0, 1) := by decide +kernel
theorem dX6_reads_147 : decode cX6_reads 147 = .ok (.getfield 168, 3) := by decide +kernel
theorem dX6_reads_150 : decode cX6_reads 150 = .ok (.sipush 999, 3) := by decide +kernel
theorem dX6_reads_153 : decode cX6_reads 153 = .ok (.if_icmp .le 10, 3) := by decide +kernel
theorem dX6_reads_156 : decode cX6_reads 156 = .ok (.aload_n 0, 1) := by decide +kernel
theorem dX6_reads_157 : decode cX6_reads 157 = .ok (.getfield 168, 3) := by decide +kernel
theorem dX6_reads_160 : decode cX6_reads 160 = .ok (.goto 23, 3) := by decide +kernel
theorem dX6_reads_163 : decode cX6_reads 163 = .ok (.bipush 10, 2) := by decide +kernel
theorem dX6_reads_165 : decode cX6_reads 165 = .ok (.aload_n 0, 1) := by decide +kernel
theorem dX6_reads_166 : decode cX6_reads 166 = .ok (.getfield 168, 3) := by decide +kernel
theorem dX6_reads_169 : decode cX6_reads 169 = .ok (.imul, 1) := by decide +kernel
theorem dX6_reads_170 : decode cX6_reads 170 = .ok (.aload_n 0, 1) := by decide +kernel
theorem dX6_reads_171 : decode cX6_reads 171 = .ok (.getfield 25, 3) := by decide +kernel
theorem dX6_reads_174 : decode cX6_reads 174 = .ok (.aload_n 0, 1) := by decide +kernel
theorem dX6_reads_175 : decode cX6_reads 175 = .ok (.getfield 157, 3) := by decide +kernel
theorem dX6_reads_178 : decode cX6_reads 178 = .ok (.iaload, 1) := by decide +kernel
theorem dX6_reads_179 : decode cX6_reads 179 = .ok (.iadd, 1) := by decide +kernel
theorem dX6_reads_180 : decode cX6_reads 180 = .ok (.bipush 48, 2) := by decide +kernel
theorem dX6_reads_182 : decode cX6_reads 182 = .ok (.isub, 1) := by decide +kernel
theorem dX6_reads_183 : decode cX6_reads 183 = .ok (.putfield 168, 3) := by decide +kernel
theorem dX6_reads_186 : decode cX6_reads 186 = .ok (.aload_n 0, 1) := by decide +kernel
theorem dX6_reads_187 : decode cX6_reads 187 = .ok (.dup, 1) := by decide +kernel
theorem dX6_reads_188 : decode cX6_reads 188 = .ok (.getfield 157, 3) := by decide +kernel
theorem dX6_reads_191 : decode cX6_reads 191 = .ok (.iconst 1, 1) := by decide +kernel
theorem dX6_reads_192 : decode cX6_reads 192 = .ok (.iadd, 1) := by decide +kernel
theorem dX6_reads_193 : decode cX6_reads 193 = .ok (.putfield 157, 3) := by decide +kernel
theorem dX6_reads_196 : decode cX6_reads 196 = .ok (.goto (-66), 3) := by decide +kernel
theorem dX6_reads_199 : decode cX6_reads 199 = .ok (.aload_n 0, 1) := by decide +kernel
theorem dX6_reads_200 : decode cX6_reads 200 = .ok (.bipush 20, 2) := by decide +kernel
theorem dX6_reads_202 : decode cX6_reads 202 = .ok (.putfield 171, 3) := by decide +kernel
theorem dX6_reads_205 : decode cX6_reads 205 = .ok (.goto 39, 3) := by decide +kernel
theorem dX6_reads_208 : decode cX6_reads 208 = .ok (.aload_n 0, 1) := by decide +kernel
theorem dX6_reads_209 : decode cX6_reads 209 = .ok (.aload_n 0, 1) := by decide +kernel
theorem dX6_reads_210 : decode cX6_reads 210 = .ok (.aload_n 0, 1) := by decide +kernel
theorem dX6_reads_211 : decode cX6_reads 211 = .ok (.getfield 157, 3) := by decide +kernel
theorem dX6_reads_214 : decode cX6_reads 214 = .ok (.bipush 59, 2) := by decide +kernel
theorem dX6_reads_216 : decode cX6_reads 216 = .ok (.bipush 59, 2) := by decide +kernel
theorem dX6_reads_218 : decode cX6_reads 218 = .ok (.invokevirtual 164, 3) := by decide +kernel
theorem dX6_reads_221 : decode cX6_reads 221 = .ok (.ifCond .eq 8, 3) := by decide +kernel
theorem dX6_reads_224 : decode cX6_reads 224 = .ok (.bipush 21, 2) := by decide +kernel
theorem dX6_reads_226 : decode cX6_reads 226 = .ok (.goto 5, 3) := by decide +kernel
theorem dX6_reads_229 : decode cX6_reads 229 = .ok (.bipush 23, 2) := by decide +kernel
theorem dX6_reads_231 : decode cX6_reads 231 = .ok (.putfield 171, 3) := by decide +kernel
theorem dX6_reads_234 : decode cX6_reads 234 = .ok (.aload_n 0, 1) := by decide +kernel
theorem dX6_reads_235 : decode cX6_reads 235 = .ok (.dup, 1) := by decide +kernel
theorem dX6_reads_236 : decode cX6_reads 236 = .ok (.getfield 157, 3) := by decide +kernel
theorem dX6_reads_239 : decode cX6_reads 239 = .ok (.iconst 1, 1) := by decide +kernel
theorem dX6_reads_240 : decode cX6_reads 240 = .ok (.iadd, 1) := by decide +kernel
theorem dX6_reads_241 : decode cX6_reads 241 = .ok (.putfield 157, 3) := by decide +kernel
theorem dX6_reads_244 : decode cX6_reads 244 = .ok (.return_, 1) := by decide +kernel
theorem dX6_passes_0 : decode cX6_passes 0 = .ok (.aload_n 0, 1) := by decide +kernel
theorem dX6_passes_1 : decode cX6_passes 1 = .ok (.getfield 177, 3) := by decide +kernel
theorem dX6_passes_4 : decode cX6_passes 4 = .ok (.ifCond .ne 11, 3) := by decide +kernel
theorem dX6_passes_7 : decode cX6_passes 7 = .ok (.aload_n 0, 1) := by decide +kernel
theorem dX6_passes_8 : decode cX6_passes 8 = .ok (.getfield 171, 3) := by decide +kernel
theorem dX6_passes_11 : decode cX6_passes 11 = .ok (.iload_n 1, 1) := by decide +kernel
theorem dX6_passes_12 : decode cX6_passes 12 = .ok (.if_icmp .eq 5, 3) := by decide +kernel
theorem dX6_passes_15 : decode cX6_passes 15 = .ok (.iconst 0, 1) := by decide +kernel
theorem dX6_passes_16 : decode cX6_passes 16 = .ok (.ireturn, 1) := by decide +kernel
theorem dX6_passes_17 : decode cX6_passes 17 = .ok (.aload_n 0, 1) := by decide +kernel
theorem dX6_passes_18 : decode cX6_passes 18 = .ok (.invokevirtual 181, 3) := by decide +kernel
theorem dX6_passes_21 : decode cX6_passes 21 = .ok (.iconst 1, 1) := by decide +kernel
theorem dX6_passes_22 : decode cX6_passes 22 = .ok (.ireturn, 1) := by decide +kernel
theorem dX6_number_0 : decode cX6_number 0 = .ok (.aload_n 0, 1) := by decide +kernel
theorem dX6_number_1 : decode cX6_number 1 = .ok (.getfield 168, 3) := by decide +kernel
theorem dX6_number_4 : decode cX6_number 4 = .ok (.istore_n 3, 1) := by decide +kernel
theorem dX6_number_5 : decode cX6_number 5 = .ok (.aload_n 0, 1) := by decide +kernel
theorem dX6_number_6 : decode cX6_number 6 = .ok (.aload_n 0, 1) := by decide +kernel
theorem dX6_number_7 : decode cX6_number 7 = .ok (.getfield 177, 3) := by decide +kernel
theorem dX6_number_10 : decode cX6_number 10 = .ok (.ifCond .ne 22, 3) := by decide +kernel
theorem dX6_number_13 : decode cX6_number 13 = .ok (.aload_n 0, 1) := by decide +kernel
theorem dX6_number_14 : decode cX6_number 14 = .ok (.getfield 171, 3) := by decide +kernel
theorem dX6_number_17 : decode cX6_number 17 = .ok (.bipush 20, 2) := by decide +kernel
theorem dX6_number_19 : decode cX6_number 19 = .ok (.if_icmp .ne 13, 3) := by decide +kernel
theorem dX6_number_22 : decode cX6_number 22 = .ok (.iload_n 3, 1) := by decide +kernel
theorem dX6_number_23 : decode cX6_number 23 = .ok (.i2l, 1) := by decide +kernel
theorem dX6_number_24 : decode cX6_number 24 = .ok (.iload_n 1, 1) := by decide +kernel
theorem dX6_number_25 : decode cX6_number 25 = .ok (.iload_n 2, 1) := by decide +kernel
theorem dX6_number_26 : decode cX6_number 26 = .ok (.invokestatic 44, 3) := by decide +kernel
theorem dX6_number_29 : decode cX6_number 29 = .ok (.ifCond .ne 7, 3) := by decide +kernel
theorem dX6_number_32 : decode cX6_number 32 = .ok (.iconst 1, 1) := by decide +kernel
theorem dX6_number_33 : decode cX6_number 33 = .ok (.goto 4, 3) := by decide +kernel
theorem dX6_number_36 : decode cX6_number 36 = .ok (.iconst 0, 1) := by decide +kernel
theorem dX6_number_37 : decode cX6_number 37 = .ok (.putfield 177, 3) := by decide +kernel
theorem dX6_number_40 : decode cX6_number 40 = .ok (.aload_n 0, 1) := by decide +kernel
theorem dX6_number_41 : decode cX6_number 41 = .ok (.getfield 177, 3) := by decide +kernel
theorem dX6_number_44 : decode cX6_number 44 = .ok (.ifCond .ne 7, 3) := by decide +kernel
theorem dX6_number_47 : decode cX6_number 47 = .ok (.aload_n 0, 1) := by decide +kernel
theorem dX6_number_48 : decode cX6_number 48 = .ok (.invokevirtual 181, 3) := by decide +kernel
theorem dX6_number_51 : decode cX6_number 51 = .ok (.iload_n 3, 1) := by decide +kernel
theorem dX6_number_52 : decode cX6_number 52 = .ok (.ireturn, 1) := by decide +kernel
theorem dX6_perhaps_0 : decode cX6_perhaps 0 = .ok (.aload_n 0, 1) := by decide +kernel
theorem dX6_perhaps_1 : decode cX6_perhaps 1 = .ok (.iload_n 1, 1) := by decide +kernel
theorem dX6_perhaps_2 : decode cX6_perhaps 2 = .ok (.invokevirtual 184, 3) := by decide +kernel
theorem dX6_perhaps_5 : decode cX6_perhaps 5 = .ok (.ifCond .eq 12, 3) := by decide +kernel
theorem dX6_perhaps_8 : decode cX6_perhaps 8 = .ok (.aload_n 0, 1) := by decide +kernel
theorem dX6_perhaps_9 : decode cX6_perhaps 9 = .ok (.iload_n 2, 1) := by decide +kernel
theorem dX6_perhaps_10 : decode cX6_perhaps 10 = .ok (.iload_n 3, 1) := by decide +kernel
theorem dX6_perhaps_11 : decode cX6_perhaps 11 = .ok (.invokevirtual 187, 3) := by decide +kernel
theorem dX6_perhaps_14 : decode cX6_perhaps 14 = .ok (.goto 5, 3) := by decide +kernel
theorem dX6_perhaps_17 : decode cX6_perhaps 17 = .ok (.iload 4, 2) := by decide +kernel
theorem dX6_perhaps_19 : decode cX6_perhaps 19 = .ok (.ireturn, 1) := by decide +kernel
theorem dX6_hatItem_0 : decode cX6_hatItem 0 = .ok (.aload_n 0, 1) := by decide +kernel
theorem dX6_hatItem_1 : decode cX6_hatItem 1 = .ok (.getfield 171, 3) := by decide +kernel
theorem dX6_hatItem_4 : decode cX6_hatItem 4 = .ok (.istore_n 1, 1) := by decide +kernel
theorem dX6_hatItem_5 : decode cX6_hatItem 5 = .ok (.aload_n 0, 1) := by decide +kernel
theorem dX6_hatItem_6 : decode cX6_hatItem 6 = .ok (.aload_n 0, 1) := by decide +kernel
theorem dX6_hatItem_7 : decode cX6_hatItem 7 = .ok (.getfield 9, 3) := by decide +kernel
theorem dX6_hatItem_10 : decode cX6_hatItem 10 = .ok (.iconst 3, 1) := by decide +kernel
theorem dX6_hatItem_11 : decode cX6_hatItem 11 = .ok (.iaload, 1) := by decide +kernel
theorem dX6_hatItem_12 : decode cX6_hatItem 12 = .ok (.bipush 10, 2) := by decide +kernel
theorem dX6_hatItem_14 : decode cX6_hatItem 14 = .ok (.if_icmp .ne 7, 3) := by decide +kernel
theorem dX6_hatItem_17 : decode cX6_hatItem 17 = .ok (.iconst 1, 1) := by decide +kernel
theorem dX6_hatItem_18 : decode cX6_hatItem 18 = .ok (.goto 4, 3) := by decide +kernel
theorem dX6_hatItem_21 : decode cX6_hatItem 21 = .ok (.iconst 0, 1) := by decide +kernel
theorem dX6_hatItem_22 : decode cX6_hatItem 22 = .ok (.putfield 177, 3) := by decide +kernel
theorem dX6_hatItem_25 : decode cX6_hatItem 25 = .ok (.aload_n 0, 1) := by decide +kernel
theorem dX6_hatItem_26 : decode cX6_hatItem 26 = .ok (.getfield 177, 3) := by decide +kernel
theorem dX6_hatItem_29 : decode cX6_hatItem 29 = .ok (.ifCond .eq 4, 3) := by decide +kernel
theorem dX6_hatItem_32 : decode cX6_hatItem 32 = .ok (.return_, 1) := by decide +kernel
theorem dX6_hatItem_33 : decode cX6_hatItem 33 = .ok (.aload_n 0, 1) := by decide +kernel
theorem dX6_hatItem_34 : decode cX6_hatItem 34 = .ok (.invokevirtual 181, 3) := by decide +kernel
theorem dX6_hatItem_37 : decode cX6_hatItem 37 = .ok (.aload_n 0, 1) := by decide +kernel
theorem dX6_hatItem_38 : decode cX6_hatItem 38 = .ok (.bipush 6, 2) := by decide +kernel
theorem dX6_hatItem_40 : decode cX6_hatItem 40 = .ok (.iconst 0, 1) := by decide +kernel
theorem dX6_hatItem_41 : decode cX6_hatItem 41 = .ok (.sipush 255, 3) := by decide +kernel
theorem dX6_hatItem_44 : decode cX6_hatItem 44 = .ok (.iconst 0, 1) := by decide +kernel
theorem dX6_hatItem_45 : decode cX6_hatItem 45 = .ok (.invokevirtual 190, 3) := by decide +kernel
theorem dX6_hatItem_48 : decode cX6_hatItem 48 = .ok (.istore_n 2, 1) := by decide +kernel
theorem dX6_hatItem_49 : decode cX6_hatItem 49 = .ok (.aload_n 0, 1) := by decide +kernel
theorem dX6_hatItem_50 : decode cX6_hatItem 50 = .ok (.bipush 7, 2) := by decide +kernel
theorem dX6_hatItem_52 : decode cX6_hatItem 52 = .ok (.iconst 0, 1) := by decide +kernel
theorem dX6_hatItem_53 : decode cX6_hatItem 53 = .ok (.bipush 99, 2) := by decide +kernel
theorem dX6_hatItem_55 : decode cX6_hatItem 55 = .ok (.bipush 50, 2) := by decide +kernel
theorem dX6_hatItem_57 : decode cX6_hatItem 57 = .ok (.invokevirtual 190, 3) := by decide +kernel
theorem dX6_hatItem_60 : decode cX6_hatItem 60 = .ok (.istore_n 3, 1) := by decide +kernel
theorem dX6_hatItem_61 : decode cX6_hatItem 61 = .ok (.aload_n 0, 1) := by decide +kernel
theorem dX6_hatItem_62 : decode cX6_hatItem 62 = .ok (.bipush 8, 2) := by decide +kernel
theorem dX6_hatItem_64 : decode cX6_hatItem 64 = .ok (.invokevirtual 184, 3) := by decide +kernel
theorem dX6_hatItem_67 : decode cX6_hatItem 67 = .ok (.ifCond .eq 7, 3) := by decide +kernel
theorem dX6_hatItem_70 : decode cX6_hatItem 70 = .ok (.iconst 0, 1) := by decide +kernel
theorem dX6_hatItem_71 : decode cX6_hatItem 71 = .ok (.goto 4, 3) := by decide +kernel
theorem dX6_hatItem_74 : decode cX6_hatItem 74 = .ok (.iconst 1, 1) := by decide +kernel
theorem dX6_hatItem_75 : decode cX6_hatItem 75 = .ok (.istore 4, 2) := by decide +kernel
theorem dX6_hatItem_77 : decode cX6_hatItem 77 = .ok (.aload_n 0, 1) := by decide +kernel
theorem dX6_hatItem_78 : decode cX6_hatItem 78 = .ok (.getfield 177, 3) := by decide +kernel
theorem dX6_hatItem_81 : decode cX6_hatItem 81 = .ok (.ifCond .ne 14, 3) := by decide +kernel
theorem dX6_hatItem_84 : decode cX6_hatItem 84 = .ok (.aload_n 0, 1) := by decide +kernel
theorem dX6_hatItem_85 : decode cX6_hatItem 85 = .ok (.iload_n 1, 1) := by decide +kernel
theorem dX6_hatItem_86 : decode cX6_hatItem 86 = .ok (.iload_n 2, 1) := by decide +kernel
theorem dX6_hatItem_87 : decode cX6_hatItem 87 = .ok (.iload_n 3, 1) := by decide +kernel
theorem dX6_hatItem_88 : decode cX6_hatItem 88 = .ok (.iload 4, 2) := by decide +kernel
theorem dX6_hatItem_90 : decode cX6_hatItem 90 = .ok (.invokevirtual 79, 3) := by decide +kernel
theorem dX6_hatItem_93 : decode cX6_hatItem 93 = .ok (.istore 5, 2) := by decide +kernel
theorem dX6_hatItem_95 : decode cX6_hatItem 95 = .ok (.return_, 1) := by decide +kernel
theorem dX6_holdsItem_0 : decode cX6_holdsItem 0 = .ok (.aload_n 0, 1) := by decide +kernel
theorem dX6_holdsItem_1 : decode cX6_holdsItem 1 = .ok (.iconst 0, 1) := by decide +kernel
theorem dX6_holdsItem_2 : decode cX6_holdsItem 2 = .ok (.bipush 7, 2) := by decide +kernel
theorem dX6_holdsItem_4 : decode cX6_holdsItem 4 = .ok (.invokevirtual 187, 3) := by decide +kernel
theorem dX6_holdsItem_7 : decode cX6_holdsItem 7 = .ok (.istore_n 1, 1) := by decide +kernel
theorem dX6_holdsItem_8 : decode cX6_holdsItem 8 = .ok (.aload_n 0, 1) := by decide +kernel
theorem dX6_holdsItem_9 : decode cX6_holdsItem 9 = .ok (.bipush 11, 2) := by decide +kernel
theorem dX6_holdsItem_11 : decode cX6_holdsItem 11 = .ok (.invokevirtual 184, 3) := by decide +kernel
theorem dX6_holdsItem_14 : decode cX6_holdsItem 14 = .ok (.istore_n 2, 1) := by decide +kernel
theorem dX6_holdsItem_15 : decode cX6_holdsItem 15 = .ok (.aload_n 0, 1) := by decide +kernel
theorem dX6_holdsItem_16 : decode cX6_holdsItem 16 = .ok (.aload_n 0, 1) := by decide +kernel
theorem dX6_holdsItem_17 : decode cX6_holdsItem 17 = .ok (.getfield 177, 3) := by decide +kernel
theorem dX6_holdsItem_20 : decode cX6_holdsItem 20 = .ok (.ifCond .ne 16, 3) := by decide +kernel
theorem dX6_holdsItem_23 : decode cX6_holdsItem 23 = .ok (.iload_n 2, 1) := by decide +kernel
theorem dX6_holdsItem_24 : decode cX6_holdsItem 24 = .ok (.ifCond .ne 16, 3) := by decide +kernel
theorem dX6_holdsItem_27 : decode cX6_holdsItem 27 = .ok (.aload_n 0, 1) := by decide +kernel
theorem dX6_holdsItem_28 : decode cX6_holdsItem 28 = .ok (.bipush 12, 2) := by decide +kernel
theorem dX6_holdsItem_30 : decode cX6_holdsItem 30 = .ok (.invokevirtual 184, 3) := by decide +kernel
theorem dX6_holdsItem_33 : decode cX6_holdsItem 33 = .ok (.ifCond .ne 7, 3) := by decide +kernel
theorem dX6_holdsItem_36 : decode cX6_holdsItem 36 = .ok (.iconst 1, 1) := by decide +kernel
theorem dX6_holdsItem_37 : decode cX6_holdsItem 37 = .ok (.goto 4, 3) := by decide +kernel
theorem dX6_holdsItem_40 : decode cX6_holdsItem 40 = .ok (.iconst 0, 1) := by decide +kernel
theorem dX6_holdsItem_41 : decode cX6_holdsItem 41 = .ok (.putfield 177, 3) := by decide +kernel
theorem dX6_holdsItem_44 : decode cX6_holdsItem 44 = .ok (.aload_n 0, 1) := by decide +kernel
theorem dX6_holdsItem_45 : decode cX6_holdsItem 45 = .ok (.getfield 177, 3) := by decide +kernel
theorem dX6_holdsItem_48 : decode cX6_holdsItem 48 = .ok (.ifCond .ne 28, 3) := by decide +kernel
theorem dX6_holdsItem_51 : decode cX6_holdsItem 51 = .ok (.aload_n 0, 1) := by decide +kernel
theorem dX6_holdsItem_52 : decode cX6_holdsItem 52 = .ok (.getfield 9, 3) := by decide +kernel
theorem dX6_holdsItem_55 : decode cX6_holdsItem 55 = .ok (.iconst 2, 1) := by decide +kernel
theorem dX6_holdsItem_56 : decode cX6_holdsItem 56 = .ok (.aload_n 0, 1) := by decide +kernel
theorem dX6_holdsItem_57 : decode cX6_holdsItem 57 = .ok (.getfield 9, 3) := by decide +kernel
theorem dX6_holdsItem_60 : decode cX6_holdsItem 60 = .ok (.iconst 2, 1) := by decide +kernel
theorem dX6_holdsItem_61 : decode cX6_holdsItem 61 = .ok (.iaload, 1) := by decide +kernel
theorem dX6_holdsItem_62 : decode cX6_holdsItem 62 = .ok (.iload_n 1, 1) := by decide +kernel
theorem dX6_holdsItem_63 : decode cX6_holdsItem 63 = .ok (.iload_n 2, 1) := by decide +kernel
theorem dX6_holdsItem_64 : decode cX6_holdsItem 64 = .ok (.ifCond .eq 7, 3) := by decide +kernel
theorem dX6_holdsItem_67 : decode cX6_holdsItem 67 = .ok (.iconst 1, 1) := by decide +kernel
theorem dX6_holdsItem_68 : decode cX6_holdsItem 68 = .ok (.goto 4, 3) := by decide +kernel
theorem dX6_holdsItem_71 : decode cX6_holdsItem 71 = .ok (.iconst 0, 1) := by decide +kernel
theorem dX6_holdsItem_72 : decode cX6_holdsItem 72 = .ok (.invokestatic 101, 3) := by decide +kernel
theorem dX6_holdsItem_75 : decode cX6_holdsItem 75 = .ok (.iastore, 1) := by decide +kernel
theorem dX6_holdsItem_76 : decode cX6_holdsItem 76 = .ok (.return_, 1) := by decide +kernel
theorem dX6_item_0 : decode cX6_item 0 = .ok (.aload_n 0, 1) := by decide +kernel
theorem dX6_item_1 : decode cX6_item 1 = .ok (.getfield 171, 3) := by decide +kernel
theorem dX6_item_4 : decode cX6_item 4 = .ok (.iconst 5, 1) := by decide +kernel
theorem dX6_item_5 : decode cX6_item 5 = .ok (.if_icmp .gt 10, 3) := by decide +kernel
theorem dX6_item_8 : decode cX6_item 8 = .ok (.aload_n 0, 1) := by decide +kernel
theorem dX6_item_9 : decode cX6_item 9 = .ok (.invokevirtual 193, 3) := by decide +kernel
theorem dX6_item_12 : decode cX6_item 12 = .ok (.goto 90, 3) := by decide +kernel
theorem dX6_item_15 : decode cX6_item 15 = .ok (.aload_n 0, 1) := by decide +kernel
theorem dX6_item_16 : decode cX6_item 16 = .ok (.bipush 9, 2) := by decide +kernel
theorem dX6_item_18 : decode cX6_item 18 = .ok (.invokevirtual 184, 3) := by decide +kernel
theorem dX6_item_21 : decode cX6_item 21 = .ok (.ifCond .eq 20, 3) := by decide +kernel
theorem dX6_item_24 : decode cX6_item 24 = .ok (.aload_n 0, 1) := by decide +kernel
theorem dX6_item_25 : decode cX6_item 25 = .ok (.getfield 9, 3) := by decide +kernel
theorem dX6_item_28 : decode cX6_item 28 = .ok (.iconst 1, 1) := by decide +kernel
theorem dX6_item_29 : decode cX6_item 29 = .ok (.aload_n 0, 1) := by decide +kernel
theorem dX6_item_30 : decode cX6_item 30 = .ok (.iconst 0, 1) := by decide +kernel
theorem dX6_item_31 : decode cX6_item 31 = .ok (.sipush 255, 3) := by decide +kernel
theorem dX6_item_34 : decode cX6_item 34 = .ok (.invokevirtual 187, 3) := by decide +kernel
theorem dX6_item_37 : decode cX6_item 37 = .ok (.iastore, 1) := by decide +kernel
theorem dX6_item_38 : decode cX6_item 38 = .ok (.goto 64, 3) := by decide +kernel
theorem dX6_item_41 : decode cX6_item 41 = .ok (.aload_n 0, 1) := by decide +kernel
theorem dX6_item_42 : decode cX6_item 42 = .ok (.bipush 10, 2) := by decide +kernel
theorem dX6_item_44 : decode cX6_item 44 = .ok (.invokevirtual 184, 3) := by decide +kernel
theorem dX6_item_47 : decode cX6_item 47 = .ok (.ifCond .eq 10, 3) := by decide +kernel
theorem dX6_item_50 : decode cX6_item 50 = .ok (.aload_n 0, 1) := by decide +kernel
theorem dX6_item_51 : decode cX6_item 51 = .ok (.invokevirtual 196, 3) := by decide +kernel
theorem dX6_item_54 : decode cX6_item 54 = .ok (.goto 48, 3) := by decide +kernel
theorem dX6_item_57 : decode cX6_item 57 = .ok (.aload_n 0, 1) := by decide +kernel
theorem dX6_item_58 : decode cX6_item 58 = .ok (.bipush 13, 2) := by decide +kernel
theorem dX6_item_60 : decode cX6_item 60 = .ok (.invokevirtual 184, 3) := by decide +kernel
theorem dX6_item_63 : decode cX6_item 63 = .ok (.ifCond .eq 34, 3) := by decide +kernel
theorem dX6_item_66 : decode cX6_item 66 = .ok (.aload_n 0, 1) := by decide +kernel
theorem dX6_item_67 : decode cX6_item 67 = .ok (.iconst 0, 1) := by decide +kernel
theorem dX6_item_68 : decode cX6_item 68 = .ok (.aload_n 0, 1) := by decide +kernel
theorem dX6_item_69 : decode cX6_item 69 = .ok (.getfield 9, 3) := by decide +kernel
theorem dX6_item_72 : decode cX6_item 72 = .ok (.iconst 3, 1) := by decide +kernel
theorem dX6_item_73 : decode cX6_item 73 = .ok (.iaload, 1) := by decide +kernel
theorem dX6_item_74 : decode cX6_item 74 = .ok (.iconst 1, 1) := by decide +kernel
theorem dX6_item_75 : decode cX6_item 75 = .ok (.isub, 1) := by decide +kernel
theorem dX6_item_76 : decode cX6_item 76 = .ok (.invokevirtual 187, 3) := by decide +kernel
theorem dX6_item_79 : decode cX6_item 79 = .ok (.istore_n 1, 1) := by decide +kernel
theorem dX6_item_80 : decode cX6_item 80 = .ok (.aload_n 0, 1) := by decide +kernel
theorem dX6_item_81 : decode cX6_item 81 = .ok (.getfield 177, 3) := by decide +kernel
theorem dX6_item_84 : decode cX6_item 84 = .ok (.ifCond .ne 10, 3) := by decide +kernel
theorem dX6_item_87 : decode cX6_item 87 = .ok (.aload_n 0, 1) := by decide +kernel
theorem dX6_item_88 : decode cX6_item 88 = .ok (.iload_n 1, 1) := by decide +kernel
theorem dX6_item_89 : decode cX6_item 89 = .ok (.iconst 5, 1) := by decide +kernel
theorem dX6_item_90 : decode cX6_item 90 = .ok (.iconst 0, 1) := by decide +kernel
theorem dX6_item_91 : decode cX6_item 91 = .ok (.invokevirtual 74, 3) := by decide +kernel
theorem dX6_item_94 : decode cX6_item 94 = .ok (.goto 8, 3) := by decide +kernel
theorem dX6_item_97 : decode cX6_item 97 = .ok (.aload_n 0, 1) := by decide +kernel
theorem dX6_item_98 : decode cX6_item 98 = .ok (.iconst 1, 1) := by decide +kernel
theorem dX6_item_99 : decode cX6_item 99 = .ok (.putfield 177, 3) := by decide +kernel
theorem dX6_item_102 : decode cX6_item 102 = .ok (.return_, 1) := by decide +kernel
theorem dX6_lobby_0 : decode cX6_lobby 0 = .ok (.aload_n 0, 1) := by decide +kernel
theorem dX6_lobby_1 : decode cX6_lobby 1 = .ok (.invokevirtual 120, 3) := by decide +kernel
theorem dX6_lobby_4 : decode cX6_lobby 4 = .ok (.aload_n 0, 1) := by decide +kernel
theorem dX6_lobby_5 : decode cX6_lobby 5 = .ok (.iconst 0, 1) := by decide +kernel
theorem dX6_lobby_6 : decode cX6_lobby 6 = .ok (.putfield 157, 3) := by decide +kernel
theorem dX6_lobby_9 : decode cX6_lobby 9 = .ok (.aload_n 0, 1) := by decide +kernel
theorem dX6_lobby_10 : decode cX6_lobby 10 = .ok (.iconst 0, 1) := by decide +kernel
theorem dX6_lobby_11 : decode cX6_lobby 11 = .ok (.putfield 177, 3) := by decide +kernel
theorem dX6_lobby_14 : decode cX6_lobby 14 = .ok (.aload_n 0, 1) := by decide +kernel
theorem dX6_lobby_15 : decode cX6_lobby 15 = .ok (.invokevirtual 181, 3) := by decide +kernel
theorem dX6_lobby_18 : decode cX6_lobby 18 = .ok (.aload_n 0, 1) := by decide +kernel
theorem dX6_lobby_19 : decode cX6_lobby 19 = .ok (.invokevirtual 199, 3) := by decide +kernel
theorem dX6_lobby_22 : decode cX6_lobby 22 = .ok (.iconst 1, 1) := by decide +kernel
theorem dX6_lobby_23 : decode cX6_lobby 23 = .ok (.istore_n 1, 1) := by decide +kernel
theorem dX6_lobby_24 : decode cX6_lobby 24 = .ok (.aload_n 0, 1) := by decide +kernel
theorem dX6_lobby_25 : decode cX6_lobby 25 = .ok (.bipush 21, 2) := by decide +kernel
theorem dX6_lobby_27 : decode cX6_lobby 27 = .ok (.invokevirtual 184, 3) := by decide +kernel
theorem dX6_lobby_30 : decode cX6_lobby 30 = .ok (.ifCond .eq 13, 3) := by decide +kernel
theorem dX6_lobby_33 : decode cX6_lobby 33 = .ok (.aload_n 0, 1) := by decide +kernel
theorem dX6_lobby_34 : decode cX6_lobby 34 = .ok (.invokevirtual 199, 3) := by decide +kernel
theorem dX6_lobby_37 : decode cX6_lobby 37 = .ok (.iinc 1 1, 3) := by decide +kernel
theorem dX6_lobby_40 : decode cX6_lobby 40 = .ok (.goto (-16), 3) := by decide +kernel
theorem dX6_lobby_43 : decode cX6_lobby 43 = .ok (.aload_n 0, 1) := by decide +kernel
theorem dX6_lobby_44 : decode cX6_lobby 44 = .ok (.aload_n 0, 1) := by decide +kernel
theorem dX6_lobby_45 : decode cX6_lobby 45 = .ok (.getfield 177, 3) := by decide +kernel
theorem dX6_lobby_48 : decode cX6_lobby 48 = .ok (.ifCond .ne 12, 3) := by decide +kernel
theorem dX6_lobby_51 : decode cX6_lobby 51 = .ok (.aload_n 0, 1) := by decide +kernel
theorem dX6_lobby_52 : decode cX6_lobby 52 = .ok (.getfield 171, 3) := by decide +kernel
theorem dX6_lobby_55 : decode cX6_lobby 55 = .ok (.bipush 22, 2) := by decide +kernel
theorem dX6_lobby_57 : decode cX6_lobby 57 = .ok (.if_icmp .eq 7, 3) := by decide +kernel
theorem dX6_lobby_60 : decode cX6_lobby 60 = .ok (.iconst 1, 1) := by decide +kernel
theorem dX6_lobby_61 : decode cX6_lobby 61 = .ok (.goto 4, 3) := by decide +kernel
theorem dX6_lobby_64 : decode cX6_lobby 64 = .ok (.iconst 0, 1) := by decide +kernel
theorem dX6_lobby_65 : decode cX6_lobby 65 = .ok (.putfield 177, 3) := by decide +kernel
theorem dX6_lobby_68 : decode cX6_lobby 68 = .ok (.aload_n 0, 1) := by decide +kernel
theorem dX6_lobby_69 : decode cX6_lobby 69 = .ok (.iconst 0, 1) := by decide +kernel
theorem dX6_lobby_70 : decode cX6_lobby 70 = .ok (.putfield 147, 3) := by decide +kernel
theorem dX6_lobby_73 : decode cX6_lobby 73 = .ok (.aload_n 0, 1) := by decide +kernel
theorem dX6_lobby_74 : decode cX6_lobby 74 = .ok (.getfield 177, 3) := by decide +kernel
theorem dX6_lobby_77 : decode cX6_lobby 77 = .ok (.ifCond .ne 5, 3) := by decide +kernel
theorem dX6_lobby_80 : decode cX6_lobby 80 = .ok (.iload_n 1, 1) := by decide +kernel
theorem dX6_lobby_81 : decode cX6_lobby 81 = .ok (.ireturn, 1) := by decide +kernel
theorem dX6_lobby_82 : decode cX6_lobby 82 = .ok (.aload_n 0, 1) := by decide +kernel
theorem dX6_lobby_83 : decode cX6_lobby 83 = .ok (.invokevirtual 123, 3) := by decide +kernel
theorem dX6_lobby_86 : decode cX6_lobby 86 = .ok (.iconst (-1), 1) := by decide +kernel
theorem dX6_lobby_87 : decode cX6_lobby 87 = .ok (.aload_n 0, 1) := by decide +kernel
theorem dX6_lobby_88 : decode cX6_lobby 88 = .ok (.getfield 154, 3) := by decide +kernel
theorem dX6_lobby_91 : decode cX6_lobby 91 = .ok (.isub, 1) := by decide +kernel
theorem dX6_lobby_92 : decode cX6_lobby 92 = .ok (.ireturn, 1) := by decide +kernel
theorem dX6_isSheet_0 : decode cX6_isSheet 0 = .ok (.iload_n 0, 1) := by decide +kernel
theorem dX6_isSheet_1 : decode cX6_isSheet 1 = .ok (.i2l, 1) := by decide +kernel
theorem dX6_isSheet_2 : decode cX6_isSheet 2 = .ok (.iconst 0, 1) := by decide +kernel
theorem dX6_isSheet_3 : decode cX6_isSheet 3 = .ok (.iconst 3, 1) := by decide +kernel
theorem dX6_isSheet_4 : decode cX6_isSheet 4 = .ok (.invokestatic 44, 3) := by decide +kernel
theorem dX6_isSheet_7 : decode cX6_isSheet 7 = .ok (.ireturn, 1) := by decide +kernel
theorem dX6_sheet_0 : decode cX6_sheet 0 = .ok (.iload_n 1, 1) := by decide +kernel
theorem dX6_sheet_1 : decode cX6_sheet 1 = .ok (.invokestatic 202, 3) := by decide +kernel
theorem dX6_sheet_4 : decode cX6_sheet 4 = .ok (.ifCond .eq 25, 3) := by decide +kernel
theorem dX6_sheet_7 : decode cX6_sheet 7 = .ok (.iload_n 2, 1) := by decide +kernel
theorem dX6_sheet_8 : decode cX6_sheet 8 = .ok (.ifCond .eq 28, 3) := by decide +kernel
theorem dX6_sheet_11 : decode cX6_sheet 11 = .ok (.iload_n 2, 1) := by decide +kernel
theorem dX6_sheet_12 : decode cX6_sheet 12 = .ok (.bipush 8, 2) := by decide +kernel
theorem dX6_sheet_14 : decode cX6_sheet 14 = .ok (.if_icmp .eq 22, 3) := by decide +kernel
theorem dX6_sheet_17 : decode cX6_sheet 17 = .ok (.iload_n 2, 1) := by decide +kernel
theorem dX6_sheet_18 : decode cX6_sheet 18 = .ok (.bipush 16, 2) := by decide +kernel
theorem dX6_sheet_20 : decode cX6_sheet 20 = .ok (.if_icmp .eq 16, 3) := by decide +kernel
theorem dX6_sheet_23 : decode cX6_sheet 23 = .ok (.iload_n 2, 1) := by decide +kernel
theorem dX6_sheet_24 : decode cX6_sheet 24 = .ok (.bipush 64, 2) := by decide +kernel
theorem dX6_sheet_26 : decode cX6_sheet 26 = .ok (.if_icmp .eq 10, 3) := by decide +kernel
theorem dX6_sheet_29 : decode cX6_sheet 29 = .ok (.aload_n 0, 1) := by decide +kernel
theorem dX6_sheet_30 : decode cX6_sheet 30 = .ok (.ldc 38, 2) := by decide +kernel
theorem dX6_sheet_32 : decode cX6_sheet 32 = .ok (.invokevirtual 40, 3) := by decide +kernel
theorem dX6_sheet_35 : decode cX6_sheet 35 = .ok (.ireturn, 1) := by decide +kernel
theorem dX6_sheet_36 : decode cX6_sheet 36 = .ok (.iload_n 3, 1) := by decide +kernel
theorem dX6_sheet_37 : decode cX6_sheet 37 = .ok (.ifCond .ge 10, 3) := by decide +kernel
theorem dX6_sheet_40 : decode cX6_sheet 40 = .ok (.aload_n 0, 1) := by decide +kernel
theorem dX6_sheet_41 : decode cX6_sheet 41 = .ok (.ldc 205, 2) := by decide +kernel
theorem dX6_sheet_43 : decode cX6_sheet 43 = .ok (.invokevirtual 40, 3) := by decide +kernel
theorem dX6_sheet_46 : decode cX6_sheet 46 = .ok (.ireturn, 1) := by decide +kernel
theorem dX6_sheet_47 : decode cX6_sheet 47 = .ok (.iload_n 3, 1) := by decide +kernel
theorem dX6_sheet_48 : decode cX6_sheet 48 = .ok (.bipush 40, 2) := by decide +kernel
theorem dX6_sheet_50 : decode cX6_sheet 50 = .ok (.if_icmp .le 10, 3) := by decide +kernel
theorem dX6_sheet_53 : decode cX6_sheet 53 = .ok (.aload_n 0, 1) := by decide +kernel
theorem dX6_sheet_54 : decode cX6_sheet 54 = .ok (.ldc 38, 2) := by decide +kernel
theorem dX6_sheet_56 : decode cX6_sheet 56 = .ok (.invokevirtual 40, 3) := by decide +kernel
theorem dX6_sheet_59 : decode cX6_sheet 59 = .ok (.ireturn, 1) := by decide +kernel
theorem dX6_sheet_60 : decode cX6_sheet 60 = .ok (.aload_n 0, 1) := by decide +kernel
theorem dX6_sheet_61 : decode cX6_sheet 61 = .ok (.getfield 28, 3) := by decide +kernel
theorem dX6_sheet_64 : decode cX6_sheet 64 = .ok (.iload_n 1, 1) := by decide +kernel
theorem dX6_sheet_65 : decode cX6_sheet 65 = .ok (.iload_n 2, 1) := by decide +kernel
theorem dX6_sheet_66 : decode cX6_sheet 66 = .ok (.iastore, 1) := by decide +kernel
theorem dX6_sheet_67 : decode cX6_sheet 67 = .ok (.aload_n 0, 1) := by decide +kernel
theorem dX6_sheet_68 : decode cX6_sheet 68 = .ok (.getfield 31, 3) := by decide +kernel
theorem dX6_sheet_71 : decode cX6_sheet 71 = .ok (.iload_n 1, 1) := by decide +kernel
theorem dX6_sheet_72 : decode cX6_sheet 72 = .ok (.iload_n 2, 1) := by decide +kernel
theorem dX6_sheet_73 : decode cX6_sheet 73 = .ok (.ifCond .ne 7, 3) := by decide +kernel
theorem dX6_sheet_76 : decode cX6_sheet 76 = .ok (.iconst 0, 1) := by decide +kernel
theorem dX6_sheet_77 : decode cX6_sheet 77 = .ok (.goto 4, 3) := by decide +kernel
theorem dX6_sheet_80 : decode cX6_sheet 80 = .ok (.iload_n 3, 1) := by decide +kernel
theorem dX6_sheet_81 : decode cX6_sheet 81 = .ok (.iastore, 1) := by decide +kernel
theorem dX6_sheet_82 : decode cX6_sheet 82 = .ok (.iconst 0, 1) := by decide +kernel
theorem dX6_sheet_83 : decode cX6_sheet 83 = .ok (.istore 4, 2) := by decide +kernel
theorem dX6_sheet_85 : decode cX6_sheet 85 = .ok (.iload 4, 2) := by decide +kernel
theorem dX6_sheet_87 : decode cX6_sheet 87 = .ok (.bipush 40, 2) := by decide +kernel
theorem dX6_sheet_89 : decode cX6_sheet 89 = .ok (.if_icmp .ge 22, 3) := by decide +kernel
theorem dX6_sheet_92 : decode cX6_sheet 92 = .ok (.aload_n 0, 1) := by decide +kernel
theorem dX6_sheet_93 : decode cX6_sheet 93 = .ok (.getfield 34, 3) := by decide +kernel
theorem dX6_sheet_96 : decode cX6_sheet 96 = .ok (.bipush 40, 2) := by decide +kernel
theorem dX6_sheet_98 : decode cX6_sheet 98 = .ok (.iload_n 1, 1) := by decide +kernel
theorem dX6_sheet_99 : decode cX6_sheet 99 = .ok (.imul, 1) := by decide +kernel
theorem dX6_sheet_100 : decode cX6_sheet 100 = .ok (.iload 4, 2) := by decide +kernel
theorem dX6_sheet_102 : decode cX6_sheet 102 = .ok (.iadd, 1) := by decide +kernel
theorem dX6_sheet_103 : decode cX6_sheet 103 = .ok (.lconst 0, 1) := by decide +kernel
theorem dX6_sheet_104 : decode cX6_sheet 104 = .ok (.lastore, 1) := by decide +kernel
theorem dX6_sheet_105 : decode cX6_sheet 105 = .ok (.iinc 4 1, 3) := by decide +kernel
theorem dX6_sheet_108 : decode cX6_sheet 108 = .ok (.goto (-23), 3) := by decide +kernel
theorem dX6_sheet_111 : decode cX6_sheet 111 = .ok (.aload_n 0, 1) := by decide +kernel
theorem dX6_sheet_112 : decode cX6_sheet 112 = .ok (.getfield 31, 3) := by decide +kernel
theorem dX6_sheet_115 : decode cX6_sheet 115 = .ok (.iload_n 1, 1) := by decide +kernel
theorem dX6_sheet_116 : decode cX6_sheet 116 = .ok (.iaload, 1) := by decide +kernel
theorem dX6_sheet_117 : decode cX6_sheet 117 = .ok (.ireturn, 1) := by decide +kernel
theorem dX6_notThere_0 : decode cX6_notThere 0 = .ok (.iload_n 1, 1) := by decide +kernel
theorem dX6_notThere_1 : decode cX6_notThere 1 = .ok (.invokestatic 202, 3) := by decide +kernel
theorem dX6_notThere_4 : decode cX6_notThere 4 = .ok (.ifCond .ne 8, 3) := by decide +kernel
theorem dX6_notThere_7 : decode cX6_notThere 7 = .ok (.ldc 38, 2) := by decide +kernel
theorem dX6_notThere_9 : decode cX6_notThere 9 = .ok (.goto 18, 3) := by decide +kernel
theorem dX6_notThere_12 : decode cX6_notThere 12 = .ok (.aload_n 0, 1) := by decide +kernel
theorem dX6_notThere_13 : decode cX6_notThere 13 = .ok (.getfield 28, 3) := by decide +kernel
theorem dX6_notThere_16 : decode cX6_notThere 16 = .ok (.iload_n 1, 1) := by decide +kernel
theorem dX6_notThere_17 : decode cX6_notThere 17 = .ok (.iaload, 1) := by decide +kernel
theorem dX6_notThere_18 : decode cX6_notThere 18 = .ok (.ifCond .ne 8, 3) := by decide +kernel
theorem dX6_notThere_21 : decode cX6_notThere 21 = .ok (.ldc 206, 2) := by decide +kernel
theorem dX6_notThere_23 : decode cX6_notThere 23 = .ok (.goto 4, 3) := by decide +kernel
theorem dX6_notThere_26 : decode cX6_notThere 26 = .ok (.iconst 0, 1) := by decide +kernel
theorem dX6_notThere_27 : decode cX6_notThere 27 = .ok (.ireturn, 1) := by decide +kernel
theorem dX6_cutTo_0 : decode cX6_cutTo 0 = .ok (.iload_n 0, 1) := by decide +kernel
theorem dX6_cutTo_1 : decode cX6_cutTo 1 = .ok (.bipush 8, 2) := by decide +kernel
theorem dX6_cutTo_3 : decode cX6_cutTo 3 = .ok (.if_icmp .ne 10, 3) := by decide +kernel
theorem dX6_cutTo_6 : decode cX6_cutTo 6 = .ok (.lload_n 1, 1) := by decide +kernel
theorem dX6_cutTo_7 : decode cX6_cutTo 7 = .ok (.l2i, 1) := by decide +kernel
theorem dX6_cutTo_8 : decode cX6_cutTo 8 = .ok (.i2b, 1) := by decide +kernel
theorem dX6_cutTo_9 : decode cX6_cutTo 9 = .ok (.i2l, 1) := by decide +kernel
theorem dX6_cutTo_10 : decode cX6_cutTo 10 = .ok (.goto 17, 3) := by decide +kernel
theorem dX6_cutTo_13 : decode cX6_cutTo 13 = .ok (.iload_n 0, 1) := by decide +kernel
theorem dX6_cutTo_14 : decode cX6_cutTo 14 = .ok (.bipush 16, 2) := by decide +kernel
theorem dX6_cutTo_16 : decode cX6_cutTo 16 = .ok (.if_icmp .ne 10, 3) := by decide +kernel
theorem dX6_cutTo_19 : decode cX6_cutTo 19 = .ok (.lload_n 1, 1) := by decide +kernel
theorem dX6_cutTo_20 : decode cX6_cutTo 20 = .ok (.l2i, 1) := by decide +kernel
theorem dX6_cutTo_21 : decode cX6_cutTo 21 = .ok (.i2s, 1) := by decide +kernel
theorem dX6_cutTo_22 : decode cX6_cutTo 22 = .ok (.i2l, 1) := by decide +kernel
theorem dX6_cutTo_23 : decode cX6_cutTo 23 = .ok (.goto 4, 3) := by decide +kernel
theorem dX6_cutTo_26 : decode cX6_cutTo 26 = .ok (.lload_n 1, 1) := by decide +kernel
theorem dX6_cutTo_27 : decode cX6_cutTo 27 = .ok (.lreturn, 1) := by decide +kernel
theorem dX6_write_0 : decode cX6_write 0 = .ok (.aload_n 0, 1) := by decide +kernel
theorem dX6_write_1 : decode cX6_write 1 = .ok (.iload_n 1, 1) := by decide +kernel
theorem dX6_write_2 : decode cX6_write 2 = .ok (.invokevirtual 207, 3) := by decide +kernel
theorem dX6_write_5 : decode cX6_write 5 = .ok (.istore 5, 2) := by decide +kernel
theorem dX6_write_7 : decode cX6_write 7 = .ok (.iload 5, 2) := by decide +kernel
theorem dX6_write_9 : decode cX6_write 9 = .ok (.ifCond .ne 24, 3) := by decide +kernel
theorem dX6_write_12 : decode cX6_write 12 = .ok (.iload_n 2, 1) := by decide +kernel
theorem dX6_write_13 : decode cX6_write 13 = .ok (.i2l, 1) := by decide +kernel
theorem dX6_write_14 : decode cX6_write 14 = .ok (.iconst 0, 1) := by decide +kernel
theorem dX6_write_15 : decode cX6_write 15 = .ok (.aload_n 0, 1) := by decide +kernel
theorem dX6_write_16 : decode cX6_write 16 = .ok (.getfield 31, 3) := by decide +kernel
theorem dX6_write_19 : decode cX6_write 19 = .ok (.iload_n 1, 1) := by decide +kernel
theorem dX6_write_20 : decode cX6_write 20 = .ok (.iaload, 1) := by decide +kernel
theorem dX6_write_21 : decode cX6_write 21 = .ok (.iconst 1, 1) := by decide +kernel
theorem dX6_write_22 : decode cX6_write 22 = .ok (.isub, 1) := by decide +kernel
theorem dX6_write_23 : decode cX6_write 23 = .ok (.invokestatic 44, 3) := by decide +kernel
theorem dX6_write_26 : decode cX6_write 26 = .ok (.ifCond .ne 7, 3) := by decide +kernel
theorem dX6_write_29 : decode cX6_write 29 = .ok (.ldc 38, 2) := by decide +kernel
theorem dX6_write_31 : decode cX6_write 31 = .ok (.istore 5, 2) := by decide +kernel
theorem dX6_write_33 : decode cX6_write 33 = .ok (.iload 5, 2) := by decide +kernel
theorem dX6_write_35 : decode cX6_write 35 = .ok (.ifCond .eq 11, 3) := by decide +kernel
theorem dX6_write_38 : decode cX6_write 38 = .ok (.aload_n 0, 1) := by decide +kernel
theorem dX6_write_39 : decode cX6_write 39 = .ok (.iload 5, 2) := by decide +kernel
theorem dX6_write_41 : decode cX6_write 41 = .ok (.invokevirtual 40, 3) := by decide +kernel
theorem dX6_write_44 : decode cX6_write 44 = .ok (.i2l, 1) := by decide +kernel
theorem dX6_write_45 : decode cX6_write 45 = .ok (.lreturn, 1) := by decide +kernel
theorem dX6_write_46 : decode cX6_write 46 = .ok (.aload_n 0, 1) := by decide +kernel
theorem dX6_write_47 : decode cX6_write 47 = .ok (.getfield 34, 3) := by decide +kernel
theorem dX6_write_50 : decode cX6_write 50 = .ok (.bipush 40, 2) := by decide +kernel
theorem dX6_write_52 : decode cX6_write 52 = .ok (.iload_n 1, 1) := by decide +kernel
theorem dX6_write_53 : decode cX6_write 53 = .ok (.imul, 1) := by decide +kernel
theorem dX6_write_54 : decode cX6_write 54 = .ok (.iload_n 2, 1) := by decide +kernel
theorem dX6_write_55 : decode cX6_write 55 = .ok (.iadd, 1) := by decide +kernel
theorem dX6_write_56 : decode cX6_write 56 = .ok (.laload, 1) := by decide +kernel
theorem dX6_write_57 : decode cX6_write 57 = .ok (.lstore 6, 2) := by decide +kernel
theorem dX6_write_59 : decode cX6_write 59 = .ok (.aload_n 0, 1) := by decide +kernel
theorem dX6_write_60 : decode cX6_write 60 = .ok (.getfield 34, 3) := by decide +kernel
theorem dX6_write_63 : decode cX6_write 63 = .ok (.bipush 40, 2) := by decide +kernel
theorem dX6_write_65 : decode cX6_write 65 = .ok (.iload_n 1, 1) := by decide +kernel
theorem dX6_write_66 : decode cX6_write 66 = .ok (.imul, 1) := by decide +kernel
theorem dX6_write_67 : decode cX6_write 67 = .ok (.iload_n 2, 1) := by decide +kernel
theorem dX6_write_68 : decode cX6_write 68 = .ok (.iadd, 1) := by decide +kernel
theorem dX6_write_69 : decode cX6_write 69 = .ok (.aload_n 0, 1) := by decide +kernel
theorem dX6_write_70 : decode cX6_write 70 = .ok (.getfield 28, 3) := by decide +kernel
theorem dX6_write_73 : decode cX6_write 73 = .ok (.iload_n 1, 1) := by decide +kernel
theorem dX6_write_74 : decode cX6_write 74 = .ok (.iaload, 1) := by decide +kernel
theorem dX6_write_75 : decode cX6_write 75 = .ok (.lload_n 3, 1) := by decide +kernel
theorem dX6_write_76 : decode cX6_write 76 = .ok (.invokestatic 210, 3) := by decide +kernel
theorem dX6_write_79 : decode cX6_write 79 = .ok (.lastore, 1) := by decide +kernel
theorem dX6_write_80 : decode cX6_write 80 = .ok (.lload 6, 2) := by decide +kernel
theorem dX6_write_82 : decode cX6_write 82 = .ok (.lreturn, 1) := by decide +kernel
theorem dX6_notCopied_0 : decode cX6_notCopied 0 = .ok (.iload_n 1, 1) := by decide +kernel
theorem dX6_notCopied_1 : decode cX6_notCopied 1 = .ok (.invokestatic 202, 3) := by decide +kernel
theorem dX6_notCopied_4 : decode cX6_notCopied 4 = .ok (.ifCond .eq 10, 3) := by decide +kernel
theorem dX6_notCopied_7 : decode cX6_notCopied 7 = .ok (.iload_n 3, 1) := by decide +kernel
theorem dX6_notCopied_8 : decode cX6_notCopied 8 = .ok (.invokestatic 202, 3) := by decide +kernel
theorem dX6_notCopied_11 : decode cX6_notCopied 11 = .ok (.ifCond .ne 6, 3) := by decide +kernel
theorem dX6_notCopied_14 : decode cX6_notCopied 14 = .ok (.ldc 38, 2) := by decide +kernel
theorem dX6_notCopied_16 : decode cX6_notCopied 16 = .ok (.ireturn, 1) := by decide +kernel
theorem dX6_notCopied_17 : decode cX6_notCopied 17 = .ok (.aload_n 0, 1) := by decide +kernel
theorem dX6_notCopied_18 : decode cX6_notCopied 18 = .ok (.getfield 28, 3) := by decide +kernel
theorem dX6_notCopied_21 : decode cX6_notCopied 21 = .ok (.iload_n 1, 1) := by decide +kernel
theorem dX6_notCopied_22 : decode cX6_notCopied 22 = .ok (.iaload, 1) := by decide +kernel
theorem dX6_notCopied_23 : decode cX6_notCopied 23 = .ok (.ifCond .eq 12, 3) := by decide +kernel
theorem dX6_notCopied_26 : decode cX6_notCopied 26 = .ok (.aload_n 0, 1) := by decide +kernel
theorem dX6_notCopied_27 : decode cX6_notCopied 27 = .ok (.getfield 28, 3) := by decide +kernel
theorem dX6_notCopied_30 : decode cX6_notCopied 30 = .ok (.iload_n 3, 1) := by decide +kernel
theorem dX6_notCopied_31 : decode cX6_notCopied 31 = .ok (.iaload, 1) := by decide +kernel
theorem dX6_notCopied_32 : decode cX6_notCopied 32 = .ok (.ifCond .ne 6, 3) := by decide +kernel
theorem dX6_notCopied_35 : decode cX6_notCopied 35 = .ok (.ldc 206, 2) := by decide +kernel
theorem dX6_notCopied_37 : decode cX6_notCopied 37 = .ok (.ireturn, 1) := by decide +kernel
theorem dX6_notCopied_38 : decode cX6_notCopied 38 = .ok (.aload_n 0, 1) := by decide +kernel
theorem dX6_notCopied_39 : decode cX6_notCopied 39 = .ok (.getfield 28, 3) := by decide +kernel
theorem dX6_notCopied_42 : decode cX6_notCopied 42 = .ok (.iload_n 1, 1) := by decide +kernel
theorem dX6_notCopied_43 : decode cX6_notCopied 43 = .ok (.iaload, 1) := by decide +kernel
theorem dX6_notCopied_44 : decode cX6_notCopied 44 = .ok (.aload_n 0, 1) := by decide +kernel
theorem dX6_notCopied_45 : decode cX6_notCopied 45 = .ok (.getfield 28, 3) := by decide +kernel
theorem dX6_notCopied_48 : decode cX6_notCopied 48 = .ok (.iload_n 3, 1) := by decide +kernel
theorem dX6_notCopied_49 : decode cX6_notCopied 49 = .ok (.iaload, 1) := by decide +kernel
theorem dX6_notCopied_50 : decode cX6_notCopied 50 = .ok (.if_icmp .eq 6, 3) := by decide +kernel
theorem dX6_notCopied_53 : decode cX6_notCopied 53 = .ok (.ldc 96, 2) := by decide +kernel
theorem dX6_notCopied_55 : decode cX6_notCopied 55 = .ok (.ireturn, 1) := by decide +kernel
theorem dX6_notCopied_56 : decode cX6_notCopied 56 = .ok (.iload 5, 2) := by decide +kernel
theorem dX6_notCopied_58 : decode cX6_notCopied 58 = .ok (.ifCond .lt 43, 3) := by decide +kernel
theorem dX6_notCopied_61 : decode cX6_notCopied 61 = .ok (.iload_n 2, 1) := by decide +kernel
theorem dX6_notCopied_62 : decode cX6_notCopied 62 = .ok (.ifCond .lt 39, 3) := by decide +kernel
theorem dX6_notCopied_65 : decode cX6_notCopied 65 = .ok (.iload 4, 2) := by decide +kernel
theorem dX6_notCopied_67 : decode cX6_notCopied 67 = .ok (.ifCond .lt 34, 3) := by decide +kernel
theorem dX6_notCopied_70 : decode cX6_notCopied 70 = .ok (.iload 5, 2) := by decide +kernel
theorem dX6_notCopied_72 : decode cX6_notCopied 72 = .ok (.aload_n 0, 1) := by decide +kernel
theorem dX6_notCopied_73 : decode cX6_notCopied 73 = .ok (.getfield 31, 3) := by decide +kernel
theorem dX6_notCopied_76 : decode cX6_notCopied 76 = .ok (.iload_n 1, 1) := by decide +kernel
theorem dX6_notCopied_77 : decode cX6_notCopied 77 = .ok (.iaload, 1) := by decide +kernel
theorem dX6_notCopied_78 : decode cX6_notCopied 78 = .ok (.iload_n 2, 1) := by decide +kernel
theorem dX6_notCopied_79 : decode cX6_notCopied 79 = .ok (.isub, 1) := by decide +kernel
theorem dX6_notCopied_80 : decode cX6_notCopied 80 = .ok (.if_icmp .gt 21, 3) := by decide +kernel
theorem dX6_notCopied_83 : decode cX6_notCopied 83 = .ok (.iload 5, 2) := by decide +kernel
theorem dX6_notCopied_85 : decode cX6_notCopied 85 = .ok (.aload_n 0, 1) := by decide +kernel
theorem dX6_notCopied_86 : decode cX6_notCopied 86 = .ok (.getfield 31, 3) := by decide +kernel
theorem dX6_notCopied_89 : decode cX6_notCopied 89 = .ok (.iload_n 3, 1) := by decide +kernel
theorem dX6_notCopied_90 : decode cX6_notCopied 90 = .ok (.iaload, 1) := by decide +kernel
theorem dX6_notCopied_91 : decode cX6_notCopied 91 = .ok (.iload 4, 2) := by decide +kernel
theorem dX6_notCopied_93 : decode cX6_notCopied 93 = .ok (.isub, 1) := by decide +kernel
theorem dX6_notCopied_94 : decode cX6_notCopied 94 = .ok (.if_icmp .gt 7, 3) := by decide +kernel
theorem dX6_notCopied_97 : decode cX6_notCopied 97 = .ok (.iconst 1, 1) := by decide +kernel
theorem dX6_notCopied_98 : decode cX6_notCopied 98 = .ok (.goto 4, 3) := by decide +kernel
theorem dX6_notCopied_101 : decode cX6_notCopied 101 = .ok (.iconst 0, 1) := by decide +kernel
theorem dX6_notCopied_102 : decode cX6_notCopied 102 = .ok (.istore 6, 2) := by decide +kernel
theorem dX6_notCopied_104 : decode cX6_notCopied 104 = .ok (.iload 6, 2) := by decide +kernel
theorem dX6_notCopied_106 : decode cX6_notCopied 106 = .ok (.ifCond .eq 7, 3) := by decide +kernel
theorem dX6_notCopied_109 : decode cX6_notCopied 109 = .ok (.iconst 0, 1) := by decide +kernel
theorem dX6_notCopied_110 : decode cX6_notCopied 110 = .ok (.goto 5, 3) := by decide +kernel
theorem dX6_notCopied_113 : decode cX6_notCopied 113 = .ok (.ldc 38, 2) := by decide +kernel
theorem dX6_notCopied_115 : decode cX6_notCopied 115 = .ok (.ireturn, 1) := by decide +kernel
theorem dX6_copy_0 : decode cX6_copy 0 = .ok (.aload_n 0, 1) := by decide +kernel
theorem dX6_copy_1 : decode cX6_copy 1 = .ok (.iload_n 1, 1) := by decide +kernel
theorem dX6_copy_2 : decode cX6_copy 2 = .ok (.iload_n 2, 1) := by decide +kernel
theorem dX6_copy_3 : decode cX6_copy 3 = .ok (.iload_n 3, 1) := by decide +kernel
theorem dX6_copy_4 : decode cX6_copy 4 = .ok (.iload 4, 2) := by decide +kernel
theorem dX6_copy_6 : decode cX6_copy 6 = .ok (.iload 5, 2) := by decide +kernel
theorem dX6_copy_8 : decode cX6_copy 8 = .ok (.invokevirtual 214, 3) := by decide +kernel
theorem dX6_copy_11 : decode cX6_copy 11 = .ok (.istore 6, 2) := by decide +kernel
theorem dX6_copy_13 : decode cX6_copy 13 = .ok (.iload 6, 2) := by decide +kernel
theorem dX6_copy_15 : decode cX6_copy 15 = .ok (.ifCond .eq 10, 3) := by decide +kernel
theorem dX6_copy_18 : decode cX6_copy 18 = .ok (.aload_n 0, 1) := by decide +kernel
theorem dX6_copy_19 : decode cX6_copy 19 = .ok (.iload 6, 2) := by decide +kernel
theorem dX6_copy_21 : decode cX6_copy 21 = .ok (.invokevirtual 40, 3) := by decide +kernel
theorem dX6_copy_24 : decode cX6_copy 24 = .ok (.ireturn, 1) := by decide +kernel
theorem dX6_copy_25 : decode cX6_copy 25 = .ok (.iconst 0, 1) := by decide +kernel
theorem dX6_copy_26 : decode cX6_copy 26 = .ok (.istore 7, 2) := by decide +kernel
theorem dX6_copy_28 : decode cX6_copy 28 = .ok (.iload 7, 2) := by decide +kernel
theorem dX6_copy_30 : decode cX6_copy 30 = .ok (.iload 5, 2) := by decide +kernel
theorem dX6_copy_32 : decode cX6_copy 32 = .ok (.if_icmp .ge 58, 3) := by decide +kernel
theorem dX6_copy_35 : decode cX6_copy 35 = .ok (.iload_n 2, 1) := by decide +kernel
theorem dX6_copy_36 : decode cX6_copy 36 = .ok (.iload 4, 2) := by decide +kernel
theorem dX6_copy_38 : decode cX6_copy 38 = .ok (.if_icmp .ge 13, 3) := by decide +kernel
theorem dX6_copy_41 : decode cX6_copy 41 = .ok (.iload 5, 2) := by decide +kernel
theorem dX6_copy_43 : decode cX6_copy 43 = .ok (.iconst 1, 1) := by decide +kernel
theorem dX6_copy_44 : decode cX6_copy 44 = .ok (.isub, 1) := by decide +kernel
theorem dX6_copy_45 : decode cX6_copy 45 = .ok (.iload 7, 2) := by decide +kernel
theorem dX6_copy_47 : decode cX6_copy 47 = .ok (.isub, 1) := by decide +kernel
theorem dX6_copy_48 : decode cX6_copy 48 = .ok (.goto 5, 3) := by decide +kernel
theorem dX6_copy_51 : decode cX6_copy 51 = .ok (.iload 7, 2) := by decide +kernel
theorem dX6_copy_53 : decode cX6_copy 53 = .ok (.istore 8, 2) := by decide +kernel
theorem dX6_copy_55 : decode cX6_copy 55 = .ok (.aload_n 0, 1) := by decide +kernel
theorem dX6_copy_56 : decode cX6_copy 56 = .ok (.getfield 34, 3) := by decide +kernel
theorem dX6_copy_59 : decode cX6_copy 59 = .ok (.bipush 40, 2) := by decide +kernel
theorem dX6_copy_61 : decode cX6_copy 61 = .ok (.iload_n 3, 1) := by decide +kernel
theorem dX6_copy_62 : decode cX6_copy 62 = .ok (.imul, 1) := by decide +kernel
theorem dX6_copy_63 : decode cX6_copy 63 = .ok (.iload 4, 2) := by decide +kernel
theorem dX6_copy_65 : decode cX6_copy 65 = .ok (.iadd, 1) := by decide +kernel
theorem dX6_copy_66 : decode cX6_copy 66 = .ok (.iload 8, 2) := by decide +kernel
theorem dX6_copy_68 : decode cX6_copy 68 = .ok (.iadd, 1) := by decide +kernel
theorem dX6_copy_69 : decode cX6_copy 69 = .ok (.aload_n 0, 1) := by decide +kernel
theorem dX6_copy_70 : decode cX6_copy 70 = .ok (.getfield 34, 3) := by decide +kernel
theorem dX6_copy_73 : decode cX6_copy 73 = .ok (.bipush 40, 2) := by decide +kernel
theorem dX6_copy_75 : decode cX6_copy 75 = .ok (.iload_n 1, 1) := by decide +kernel
theorem dX6_copy_76 : decode cX6_copy 76 = .ok (.imul, 1) := by decide +kernel
theorem dX6_copy_77 : decode cX6_copy 77 = .ok (.iload_n 2, 1) := by decide +kernel
theorem dX6_copy_78 : decode cX6_copy 78 = .ok (.iadd, 1) := by decide +kernel
theorem dX6_copy_79 : decode cX6_copy 79 = .ok (.iload 8, 2) := by decide +kernel
theorem dX6_copy_81 : decode cX6_copy 81 = .ok (.iadd, 1) := by decide +kernel
theorem dX6_copy_82 : decode cX6_copy 82 = .ok (.laload, 1) := by decide +kernel
theorem dX6_copy_83 : decode cX6_copy 83 = .ok (.lastore, 1) := by decide +kernel
theorem dX6_copy_84 : decode cX6_copy 84 = .ok (.iinc 7 1, 3) := by decide +kernel
theorem dX6_copy_87 : decode cX6_copy 87 = .ok (.goto (-59), 3) := by decide +kernel
theorem dX6_copy_90 : decode cX6_copy 90 = .ok (.iload 5, 2) := by decide +kernel
theorem dX6_copy_92 : decode cX6_copy 92 = .ok (.ireturn, 1) := by decide +kernel
theorem dX6_lays_0 : decode cX6_lays 0 = .ok (.aload_n 0, 1) := by decide +kernel
theorem dX6_lays_1 : decode cX6_lays 1 = .ok (.iload_n 1, 1) := by decide +kernel
theorem dX6_lays_2 : decode cX6_lays 2 = .ok (.invokevirtual 207, 3) := by decide +kernel
theorem dX6_lays_5 : decode cX6_lays 5 = .ok (.istore_n 2, 1) := by decide +kernel
theorem dX6_lays_6 : decode cX6_lays 6 = .ok (.iload_n 2, 1) := by decide +kernel
theorem dX6_lays_7 : decode cX6_lays 7 = .ok (.ifCond .eq 9, 3) := by decide +kernel
theorem dX6_lays_10 : decode cX6_lays 10 = .ok (.aload_n 0, 1) := by decide +kernel
theorem dX6_lays_11 : decode cX6_lays 11 = .ok (.iload_n 2, 1) := by decide +kernel
theorem dX6_lays_12 : decode cX6_lays 12 = .ok (.invokevirtual 40, 3) := by decide +kernel
theorem dX6_lays_15 : decode cX6_lays 15 = .ok (.ireturn, 1) := by decide +kernel
theorem dX6_lays_16 : decode cX6_lays 16 = .ok (.iconst 0, 1) := by decide +kernel
theorem dX6_lays_17 : decode cX6_lays 17 = .ok (.istore_n 3, 1) := by decide +kernel
theorem dX6_lays_18 : decode cX6_lays 18 = .ok (.iconst 0, 1) := by decide +kernel
theorem dX6_lays_19 : decode cX6_lays 19 = .ok (.istore 4, 2) := by decide +kernel
theorem dX6_lays_21 : decode cX6_lays 21 = .ok (.iload 4, 2) := by decide +kernel
theorem dX6_lays_23 : decode cX6_lays 23 = .ok (.aload_n 0, 1) := by decide +kernel
theorem dX6_lays_24 : decode cX6_lays 24 = .ok (.getfield 31, 3) := by decide +kernel
theorem dX6_lays_27 : decode cX6_lays 27 = .ok (.iload_n 1, 1) := by decide +kernel
theorem dX6_lays_28 : decode cX6_lays 28 = .ok (.iaload, 1) := by decide +kernel
theorem dX6_lays_29 : decode cX6_lays 29 = .ok (.if_icmp .ge 65, 3) := by decide +kernel
theorem dX6_lays_32 : decode cX6_lays 32 = .ok (.iload 4, 2) := by decide +kernel
theorem dX6_lays_34 : decode cX6_lays 34 = .ok (.aload_n 0, 1) := by decide +kernel
theorem dX6_lays_35 : decode cX6_lays 35 = .ok (.getfield 9, 3) := by decide +kernel
theorem dX6_lays_38 : decode cX6_lays 38 = .ok (.iconst 3, 1) := by decide +kernel
theorem dX6_lays_39 : decode cX6_lays 39 = .ok (.iaload, 1) := by decide +kernel
theorem dX6_lays_40 : decode cX6_lays 40 = .ok (.if_icmp .ge 54, 3) := by decide +kernel
theorem dX6_lays_43 : decode cX6_lays 43 = .ok (.aload_n 0, 1) := by decide +kernel
theorem dX6_lays_44 : decode cX6_lays 44 = .ok (.getfield 34, 3) := by decide +kernel
theorem dX6_lays_47 : decode cX6_lays 47 = .ok (.bipush 40, 2) := by decide +kernel
theorem dX6_lays_49 : decode cX6_lays 49 = .ok (.iload_n 1, 1) := by decide +kernel
theorem dX6_lays_50 : decode cX6_lays 50 = .ok (.imul, 1) := by decide +kernel
theorem dX6_lays_51 : decode cX6_lays 51 = .ok (.iload 4, 2) := by decide +kernel
theorem dX6_lays_53 : decode cX6_lays 53 = .ok (.iadd, 1) := by decide +kernel
theorem dX6_lays_54 : decode cX6_lays 54 = .ok (.laload, 1) := by decide +kernel
theorem dX6_lays_55 : decode cX6_lays 55 = .ok (.iconst 0, 1) := by decide +kernel
theorem dX6_lays_56 : decode cX6_lays 56 = .ok (.sipush 255, 3) := by decide +kernel
theorem dX6_lays_59 : decode cX6_lays 59 = .ok (.invokestatic 44, 3) := by decide +kernel
theorem dX6_lays_62 : decode cX6_lays 62 = .ok (.ifCond .eq 26, 3) := by decide +kernel
theorem dX6_lays_65 : decode cX6_lays 65 = .ok (.aload_n 0, 1) := by decide +kernel
theorem dX6_lays_66 : decode cX6_lays 66 = .ok (.iload 4, 2) := by decide +kernel
theorem dX6_lays_68 : decode cX6_lays 68 = .ok (.iconst 1, 1) := by decide +kernel
theorem dX6_lays_69 : decode cX6_lays 69 = .ok (.aload_n 0, 1) := by decide +kernel
theorem dX6_lays_70 : decode cX6_lays 70 = .ok (.getfield 34, 3) := by decide +kernel
theorem dX6_lays_73 : decode cX6_lays 73 = .ok (.bipush 40, 2) := by decide +kernel
theorem dX6_lays_75 : decode cX6_lays 75 = .ok (.iload_n 1, 1) := by decide +kernel
theorem dX6_lays_76 : decode cX6_lays 76 = .ok (.imul, 1) := by decide +kernel
theorem dX6_lays_77 : decode cX6_lays 77 = .ok (.iload 4, 2) := by decide +kernel
theorem dX6_lays_79 : decode cX6_lays 79 = .ok (.iadd, 1) := by decide +kernel
theorem dX6_lays_80 : decode cX6_lays 80 = .ok (.laload, 1) := by decide +kernel
theorem dX6_lays_81 : decode cX6_lays 81 = .ok (.l2i, 1) := by decide +kernel
theorem dX6_lays_82 : decode cX6_lays 82 = .ok (.invokevirtual 74, 3) := by decide +kernel
theorem dX6_lays_85 : decode cX6_lays 85 = .ok (.iinc 3 1, 3) := by decide +kernel
theorem dX6_lays_88 : decode cX6_lays 88 = .ok (.iinc 4 1, 3) := by decide +kernel
theorem dX6_lays_91 : decode cX6_lays 91 = .ok (.goto (-70), 3) := by decide +kernel
theorem dX6_lays_94 : decode cX6_lays 94 = .ok (.iload_n 3, 1) := by decide +kernel
theorem dX6_lays_95 : decode cX6_lays 95 = .ok (.ireturn, 1) := by decide +kernel
theorem dX6_notAsked_0 : decode cX6_notAsked 0 = .ok (.aload_n 0, 1) := by decide +kernel
theorem dX6_notAsked_1 : decode cX6_notAsked 1 = .ok (.iload_n 1, 1) := by decide +kernel
theorem dX6_notAsked_2 : decode cX6_notAsked 2 = .ok (.invokevirtual 207, 3) := by decide +kernel
theorem dX6_notAsked_5 : decode cX6_notAsked 5 = .ok (.istore_n 3, 1) := by decide +kernel
theorem dX6_notAsked_6 : decode cX6_notAsked 6 = .ok (.iload_n 3, 1) := by decide +kernel
theorem dX6_notAsked_7 : decode cX6_notAsked 7 = .ok (.ifCond .ne 16, 3) := by decide +kernel
theorem dX6_notAsked_10 : decode cX6_notAsked 10 = .ok (.aload_n 0, 1) := by decide +kernel
theorem dX6_notAsked_11 : decode cX6_notAsked 11 = .ok (.iload_n 2, 1) := by decide +kernel
theorem dX6_notAsked_12 : decode cX6_notAsked 12 = .ok (.invokevirtual 83, 3) := by decide +kernel
theorem dX6_notAsked_15 : decode cX6_notAsked 15 = .ok (.ifCond .ne 8, 3) := by decide +kernel
theorem dX6_notAsked_18 : decode cX6_notAsked 18 = .ok (.ldc 38, 2) := by decide +kernel
theorem dX6_notAsked_20 : decode cX6_notAsked 20 = .ok (.goto 4, 3) := by decide +kernel
theorem dX6_notAsked_23 : decode cX6_notAsked 23 = .ok (.iload_n 3, 1) := by decide +kernel
theorem dX6_notAsked_24 : decode cX6_notAsked 24 = .ok (.ireturn, 1) := by decide +kernel
theorem dX6_book_0 : decode cX6_book 0 = .ok (.aload_n 0, 1) := by decide +kernel
theorem dX6_book_1 : decode cX6_book 1 = .ok (.iload_n 1, 1) := by decide +kernel
theorem dX6_book_2 : decode cX6_book 2 = .ok (.iload_n 2, 1) := by decide +kernel
theorem dX6_book_3 : decode cX6_book 3 = .ok (.invokevirtual 218, 3) := by decide +kernel
theorem dX6_book_6 : decode cX6_book 6 = .ok (.istore_n 3, 1) := by decide +kernel
theorem dX6_book_7 : decode cX6_book 7 = .ok (.iload_n 3, 1) := by decide +kernel
theorem dX6_book_8 : decode cX6_book 8 = .ok (.ifCond .eq 9, 3) := by decide +kernel
theorem dX6_book_11 : decode cX6_book 11 = .ok (.aload_n 0, 1) := by decide +kernel
theorem dX6_book_12 : decode cX6_book 12 = .ok (.iload_n 3, 1) := by decide +kernel
theorem dX6_book_13 : decode cX6_book 13 = .ok (.invokevirtual 40, 3) := by decide +kernel
theorem dX6_book_16 : decode cX6_book 16 = .ok (.ireturn, 1) := by decide +kernel
theorem dX6_book_17 : decode cX6_book 17 = .ok (.aload_n 0, 1) := by decide +kernel
theorem dX6_book_18 : decode cX6_book 18 = .ok (.invokevirtual 120, 3) := by decide +kernel
theorem dX6_book_21 : decode cX6_book 21 = .ok (.iconst 0, 1) := by decide +kernel
theorem dX6_book_22 : decode cX6_book 22 = .ok (.istore 4, 2) := by decide +kernel
theorem dX6_book_24 : decode cX6_book 24 = .ok (.iload 4, 2) := by decide +kernel
theorem dX6_book_26 : decode cX6_book 26 = .ok (.aload_n 0, 1) := by decide +kernel
theorem dX6_book_27 : decode cX6_book 27 = .ok (.getfield 31, 3) := by decide +kernel
theorem dX6_book_30 : decode cX6_book 30 = .ok (.iload_n 1, 1) := by decide +kernel
theorem dX6_book_31 : decode cX6_book 31 = .ok (.iaload, 1) := by decide +kernel
theorem dX6_book_32 : decode cX6_book 32 = .ok (.if_icmp .ge 44, 3) := by decide +kernel
theorem dX6_book_35 : decode cX6_book 35 = .ok (.aload_n 0, 1) := by decide +kernel
theorem dX6_book_36 : decode cX6_book 36 = .ok (.getfield 34, 3) := by decide +kernel
theorem dX6_book_39 : decode cX6_book 39 = .ok (.bipush 40, 2) := by decide +kernel
theorem dX6_book_41 : decode cX6_book 41 = .ok (.iload_n 1, 1) := by decide +kernel
theorem dX6_book_42 : decode cX6_book 42 = .ok (.imul, 1) := by decide +kernel
theorem dX6_book_43 : decode cX6_book 43 = .ok (.iload 4, 2) := by decide +kernel
theorem dX6_book_45 : decode cX6_book 45 = .ok (.iadd, 1) := by decide +kernel
theorem dX6_book_46 : decode cX6_book 46 = .ok (.aload_n 0, 1) := by decide +kernel
theorem dX6_book_47 : decode cX6_book 47 = .ok (.getfield 28, 3) := by decide +kernel
theorem dX6_book_50 : decode cX6_book 50 = .ok (.iload_n 1, 1) := by decide +kernel
theorem dX6_book_51 : decode cX6_book 51 = .ok (.iaload, 1) := by decide +kernel
theorem dX6_book_52 : decode cX6_book 52 = .ok (.aload_n 0, 1) := by decide +kernel
theorem dX6_book_53 : decode cX6_book 53 = .ok (.iload_n 2, 1) := by decide +kernel
theorem dX6_book_54 : decode cX6_book 54 = .ok (.aload_n 0, 1) := by decide +kernel
theorem dX6_book_55 : decode cX6_book 55 = .ok (.invokevirtual 61, 3) := by decide +kernel
theorem dX6_book_58 : decode cX6_book 58 = .ok (.invokevirtual 55, 3) := by decide +kernel
theorem dX6_book_61 : decode cX6_book 61 = .ok (.i2l, 1) := by decide +kernel
theorem dX6_book_62 : decode cX6_book 62 = .ok (.invokestatic 210, 3) := by decide +kernel
theorem dX6_book_65 : decode cX6_book 65 = .ok (.lastore, 1) := by decide +kernel
theorem dX6_book_66 : decode cX6_book 66 = .ok (.aload_n 0, 1) := by decide +kernel
theorem dX6_book_67 : decode cX6_book 67 = .ok (.invokevirtual 107, 3) := by decide +kernel
theorem dX6_book_70 : decode cX6_book 70 = .ok (.iinc 4 1, 3) := by decide +kernel
theorem dX6_book_73 : decode cX6_book 73 = .ok (.goto (-49), 3) := by decide +kernel
theorem dX6_book_76 : decode cX6_book 76 = .ok (.aload_n 0, 1) := by decide +kernel
theorem dX6_book_77 : decode cX6_book 77 = .ok (.invokevirtual 123, 3) := by decide +kernel
theorem dX6_book_80 : decode cX6_book 80 = .ok (.aload_n 0, 1) := by decide +kernel
theorem dX6_book_81 : decode cX6_book 81 = .ok (.getfield 31, 3) := by decide +kernel
theorem dX6_book_84 : decode cX6_book 84 = .ok (.iload_n 1, 1) := by decide +kernel
theorem dX6_book_85 : decode cX6_book 85 = .ok (.iaload, 1) := by decide +kernel
theorem dX6_book_86 : decode cX6_book 86 = .ok (.ireturn, 1) := by decide +kernel
theorem dX6_isBook_0 : decode cX6_isBook 0 = .ok (.iconst 1, 1) := by decide +kernel
theorem dX6_isBook_1 : decode cX6_isBook 1 = .ok (.istore_n 3, 1) := by decide +kernel
theorem dX6_isBook_2 : decode cX6_isBook 2 = .ok (.iconst 0, 1) := by decide +kernel
theorem dX6_isBook_3 : decode cX6_isBook 3 = .ok (.istore 4, 2) := by decide +kernel
theorem dX6_isBook_5 : decode cX6_isBook 5 = .ok (.iload 4, 2) := by decide +kernel
theorem dX6_isBook_7 : decode cX6_isBook 7 = .ok (.aload_n 0, 1) := by decide +kernel
theorem dX6_isBook_8 : decode cX6_isBook 8 = .ok (.getfield 31, 3) := by decide +kernel
theorem dX6_isBook_11 : decode cX6_isBook 11 = .ok (.iload_n 1, 1) := by decide +kernel
theorem dX6_isBook_12 : decode cX6_isBook 12 = .ok (.iaload, 1) := by decide +kernel
theorem dX6_isBook_13 : decode cX6_isBook 13 = .ok (.if_icmp .ge 49, 3) := by decide +kernel
theorem dX6_isBook_16 : decode cX6_isBook 16 = .ok (.iload_n 3, 1) := by decide +kernel
theorem dX6_isBook_17 : decode cX6_isBook 17 = .ok (.ifCond .eq 45, 3) := by decide +kernel
theorem dX6_isBook_20 : decode cX6_isBook 20 = .ok (.aload_n 0, 1) := by decide +kernel
theorem dX6_isBook_21 : decode cX6_isBook 21 = .ok (.getfield 34, 3) := by decide +kernel
theorem dX6_isBook_24 : decode cX6_isBook 24 = .ok (.bipush 40, 2) := by decide +kernel
theorem dX6_isBook_26 : decode cX6_isBook 26 = .ok (.iload_n 1, 1) := by decide +kernel
theorem dX6_isBook_27 : decode cX6_isBook 27 = .ok (.imul, 1) := by decide +kernel
theorem dX6_isBook_28 : decode cX6_isBook 28 = .ok (.iload 4, 2) := by decide +kernel
theorem dX6_isBook_30 : decode cX6_isBook 30 = .ok (.iadd, 1) := by decide +kernel
theorem dX6_isBook_31 : decode cX6_isBook 31 = .ok (.laload, 1) := by decide +kernel
theorem dX6_isBook_32 : decode cX6_isBook 32 = .ok (.aload_n 0, 1) := by decide +kernel
theorem dX6_isBook_33 : decode cX6_isBook 33 = .ok (.iload_n 2, 1) := by decide +kernel
theorem dX6_isBook_34 : decode cX6_isBook 34 = .ok (.aload_n 0, 1) := by decide +kernel
theorem dX6_isBook_35 : decode cX6_isBook 35 = .ok (.invokevirtual 61, 3) := by decide +kernel
theorem dX6_isBook_38 : decode cX6_isBook 38 = .ok (.invokevirtual 55, 3) := by decide +kernel
theorem dX6_isBook_41 : decode cX6_isBook 41 = .ok (.i2l, 1) := by decide +kernel
theorem dX6_isBook_42 : decode cX6_isBook 42 = .ok (.lcmp, 1) := by decide +kernel
theorem dX6_isBook_43 : decode cX6_isBook 43 = .ok (.ifCond .ne 7, 3) := by decide +kernel
theorem dX6_isBook_46 : decode cX6_isBook 46 = .ok (.iconst 1, 1) := by decide +kernel
theorem dX6_isBook_47 : decode cX6_isBook 47 = .ok (.goto 4, 3) := by decide +kernel
theorem dX6_isBook_50 : decode cX6_isBook 50 = .ok (.iconst 0, 1) := by decide +kernel
theorem dX6_isBook_51 : decode cX6_isBook 51 = .ok (.istore_n 3, 1) := by decide +kernel
theorem dX6_isBook_52 : decode cX6_isBook 52 = .ok (.aload_n 0, 1) := by decide +kernel
theorem dX6_isBook_53 : decode cX6_isBook 53 = .ok (.invokevirtual 107, 3) := by decide +kernel
theorem dX6_isBook_56 : decode cX6_isBook 56 = .ok (.iinc 4 1, 3) := by decide +kernel
theorem dX6_isBook_59 : decode cX6_isBook 59 = .ok (.goto (-54), 3) := by decide +kernel
theorem dX6_isBook_62 : decode cX6_isBook 62 = .ok (.aload_n 0, 1) := by decide +kernel
theorem dX6_isBook_63 : decode cX6_isBook 63 = .ok (.invokevirtual 123, 3) := by decide +kernel
theorem dX6_isBook_66 : decode cX6_isBook 66 = .ok (.iload_n 3, 1) := by decide +kernel
theorem dX6_isBook_67 : decode cX6_isBook 67 = .ok (.ireturn, 1) := by decide +kernel
theorem dX6_read_0 : decode cX6_read 0 = .ok (.aload_n 0, 1) := by decide +kernel
theorem dX6_read_1 : decode cX6_read 1 = .ok (.iload_n 1, 1) := by decide +kernel
theorem dX6_read_2 : decode cX6_read 2 = .ok (.iload_n 2, 1) := by decide +kernel
theorem dX6_read_3 : decode cX6_read 3 = .ok (.invokevirtual 218, 3) := by decide +kernel
theorem dX6_read_6 : decode cX6_read 6 = .ok (.istore_n 3, 1) := by decide +kernel
theorem dX6_read_7 : decode cX6_read 7 = .ok (.iload_n 3, 1) := by decide +kernel
theorem dX6_read_8 : decode cX6_read 8 = .ok (.ifCond .eq 9, 3) := by decide +kernel
theorem dX6_read_11 : decode cX6_read 11 = .ok (.aload_n 0, 1) := by decide +kernel
theorem dX6_read_12 : decode cX6_read 12 = .ok (.iload_n 3, 1) := by decide +kernel
theorem dX6_read_13 : decode cX6_read 13 = .ok (.invokevirtual 40, 3) := by decide +kernel
theorem dX6_read_16 : decode cX6_read 16 = .ok (.ireturn, 1) := by decide +kernel
theorem dX6_read_17 : decode cX6_read 17 = .ok (.aload_n 0, 1) := by decide +kernel
theorem dX6_read_18 : decode cX6_read 18 = .ok (.invokevirtual 120, 3) := by decide +kernel
theorem dX6_read_21 : decode cX6_read 21 = .ok (.iconst 0, 1) := by decide +kernel
theorem dX6_read_22 : decode cX6_read 22 = .ok (.istore 4, 2) := by decide +kernel
theorem dX6_read_24 : decode cX6_read 24 = .ok (.iconst 0, 1) := by decide +kernel
theorem dX6_read_25 : decode cX6_read 25 = .ok (.istore 5, 2) := by decide +kernel
theorem dX6_read_27 : decode cX6_read 27 = .ok (.iload 5, 2) := by decide +kernel
theorem dX6_read_29 : decode cX6_read 29 = .ok (.sipush 1536, 3) := by decide +kernel
theorem dX6_read_32 : decode cX6_read 32 = .ok (.if_icmp .ge 52, 3) := by decide +kernel
theorem dX6_read_35 : decode cX6_read 35 = .ok (.aload_n 0, 1) := by decide +kernel
theorem dX6_read_36 : decode cX6_read 36 = .ok (.iload_n 2, 1) := by decide +kernel
theorem dX6_read_37 : decode cX6_read 37 = .ok (.iconst 0, 1) := by decide +kernel
theorem dX6_read_38 : decode cX6_read 38 = .ok (.iload 5, 2) := by decide +kernel
theorem dX6_read_40 : decode cX6_read 40 = .ok (.sipush 256, 3) := by decide +kernel
theorem dX6_read_43 : decode cX6_read 43 = .ok (.idiv, 1) := by decide +kernel
theorem dX6_read_44 : decode cX6_read 44 = .ok (.invokevirtual 74, 3) := by decide +kernel
theorem dX6_read_47 : decode cX6_read 47 = .ok (.aload_n 0, 1) := by decide +kernel
theorem dX6_read_48 : decode cX6_read 48 = .ok (.iload_n 2, 1) := by decide +kernel
theorem dX6_read_49 : decode cX6_read 49 = .ok (.iconst 1, 1) := by decide +kernel
theorem dX6_read_50 : decode cX6_read 50 = .ok (.iload 5, 2) := by decide +kernel
theorem dX6_read_52 : decode cX6_read 52 = .ok (.sipush 256, 3) := by decide +kernel
theorem dX6_read_55 : decode cX6_read 55 = .ok (.irem, 1) := by decide +kernel
theorem dX6_read_56 : decode cX6_read 56 = .ok (.invokevirtual 74, 3) := by decide +kernel
theorem dX6_read_59 : decode cX6_read 59 = .ok (.iload 4, 2) := by decide +kernel
theorem dX6_read_61 : decode cX6_read 61 = .ok (.aload_n 0, 1) := by decide +kernel
theorem dX6_read_62 : decode cX6_read 62 = .ok (.iload_n 1, 1) := by decide +kernel
theorem dX6_read_63 : decode cX6_read 63 = .ok (.iload_n 2, 1) := by decide +kernel
theorem dX6_read_64 : decode cX6_read 64 = .ok (.invokevirtual 221, 3) := by decide +kernel
theorem dX6_read_67 : decode cX6_read 67 = .ok (.ifCond .eq 7, 3) := by decide +kernel
theorem dX6_read_70 : decode cX6_read 70 = .ok (.iconst 1, 1) := by decide +kernel
theorem dX6_read_71 : decode cX6_read 71 = .ok (.goto 4, 3) := by decide +kernel
theorem dX6_read_74 : decode cX6_read 74 = .ok (.iconst 0, 1) := by decide +kernel
theorem dX6_read_75 : decode cX6_read 75 = .ok (.iadd, 1) := by decide +kernel
theorem dX6_read_76 : decode cX6_read 76 = .ok (.istore 4, 2) := by decide +kernel
theorem dX6_read_78 : decode cX6_read 78 = .ok (.iinc 5 1, 3) := by decide +kernel
theorem dX6_read_81 : decode cX6_read 81 = .ok (.goto (-54), 3) := by decide +kernel
theorem dX6_read_84 : decode cX6_read 84 = .ok (.iload 4, 2) := by decide +kernel
theorem dX6_read_86 : decode cX6_read 86 = .ok (.ireturn, 1) := by decide +kernel
theorem dX6_image_0 : decode cX6_image 0 = .ok (.aload_n 0, 1) := by decide +kernel
theorem dX6_image_1 : decode cX6_image 1 = .ok (.getfield 9, 3) := by decide +kernel
theorem dX6_image_4 : decode cX6_image 4 = .ok (.aload_n 0, 1) := by decide +kernel
theorem dX6_image_5 : decode cX6_image 5 = .ok (.getfield 13, 3) := by decide +kernel
theorem dX6_image_8 : decode cX6_image 8 = .ok (.invokestatic 116, 3) := by decide +kernel
theorem dX6_image_11 : decode cX6_image 11 = .ok (.aload_n 0, 1) := by decide +kernel
theorem dX6_image_12 : decode cX6_image 12 = .ok (.iconst 1, 1) := by decide +kernel
theorem dX6_image_13 : decode cX6_image 13 = .ok (.putfield 224, 3) := by decide +kernel
theorem dX6_image_16 : decode cX6_image 16 = .ok (.iconst 1, 1) := by decide +kernel
theorem dX6_image_17 : decode cX6_image 17 = .ok (.ireturn, 1) := by decide +kernel
theorem dX6_undo_0 : decode cX6_undo 0 = .ok (.aload_n 0, 1) := by decide +kernel
theorem dX6_undo_1 : decode cX6_undo 1 = .ok (.getfield 224, 3) := by decide +kernel
theorem dX6_undo_4 : decode cX6_undo 4 = .ok (.ifCond .ne 10, 3) := by decide +kernel
theorem dX6_undo_7 : decode cX6_undo 7 = .ok (.aload_n 0, 1) := by decide +kernel
theorem dX6_undo_8 : decode cX6_undo 8 = .ok (.ldc 39, 2) := by decide +kernel
theorem dX6_undo_10 : decode cX6_undo 10 = .ok (.invokevirtual 40, 3) := by decide +kernel
theorem dX6_undo_13 : decode cX6_undo 13 = .ok (.ireturn, 1) := by decide +kernel
theorem dX6_undo_14 : decode cX6_undo 14 = .ok (.aload_n 0, 1) := by decide +kernel
theorem dX6_undo_15 : decode cX6_undo 15 = .ok (.getfield 13, 3) := by decide +kernel
theorem dX6_undo_18 : decode cX6_undo 18 = .ok (.aload_n 0, 1) := by decide +kernel
theorem dX6_undo_19 : decode cX6_undo 19 = .ok (.getfield 9, 3) := by decide +kernel
theorem dX6_undo_22 : decode cX6_undo 22 = .ok (.invokestatic 116, 3) := by decide +kernel
theorem dX6_undo_25 : decode cX6_undo 25 = .ok (.aload_n 0, 1) := by decide +kernel
theorem dX6_undo_26 : decode cX6_undo 26 = .ok (.getfield 9, 3) := by decide +kernel
theorem dX6_undo_29 : decode cX6_undo 29 = .ok (.iconst 3, 1) := by decide +kernel
theorem dX6_undo_30 : decode cX6_undo 30 = .ok (.iaload, 1) := by decide +kernel
theorem dX6_undo_31 : decode cX6_undo 31 = .ok (.ireturn, 1) := by decide +kernel
theorem dX6_tear_0 : decode cX6_tear 0 = .ok (.aload_n 0, 1) := by decide +kernel
theorem dX6_tear_1 : decode cX6_tear 1 = .ok (.getfield 224, 3) := by decide +kernel
theorem dX6_tear_4 : decode cX6_tear 4 = .ok (.ifCond .eq 7, 3) := by decide +kernel
theorem dX6_tear_7 : decode cX6_tear 7 = .ok (.iconst 1, 1) := by decide +kernel
theorem dX6_tear_8 : decode cX6_tear 8 = .ok (.goto 4, 3) := by decide +kernel
theorem dX6_tear_11 : decode cX6_tear 11 = .ok (.iconst 0, 1) := by decide +kernel
theorem dX6_tear_12 : decode cX6_tear 12 = .ok (.istore_n 1, 1) := by decide +kernel
theorem dX6_tear_13 : decode cX6_tear 13 = .ok (.aload_n 0, 1) := by decide +kernel
theorem dX6_tear_14 : decode cX6_tear 14 = .ok (.iconst 0, 1) := by decide +kernel
theorem dX6_tear_15 : decode cX6_tear 15 = .ok (.putfield 224, 3) := by decide +kernel
theorem dX6_tear_18 : decode cX6_tear 18 = .ok (.iload_n 1, 1) := by decide +kernel
theorem dX6_tear_19 : decode cX6_tear 19 = .ok (.ireturn, 1) := by decide +kernel
theorem dX6_count_0 : decode cX6_count 0 = .ok (.iload_n 1, 1) := by decide +kernel
theorem dX6_count_1 : decode cX6_count 1 = .ok (.tableswitch 55 0 3 #[31, 38, 43, 49], 31) := by decide +kernel
theorem dX6_count_32 : decode cX6_count 32 = .ok (.aload_n 0, 1) := by decide +kernel
theorem dX6_count_33 : decode cX6_count 33 = .ok (.getfield 9, 3) := by decide +kernel
theorem dX6_count_36 : decode cX6_count 36 = .ok (.iconst 3, 1) := by decide +kernel
theorem dX6_count_37 : decode cX6_count 37 = .ok (.iaload, 1) := by decide +kernel
theorem dX6_count_38 : decode cX6_count 38 = .ok (.ireturn, 1) := by decide +kernel
theorem dX6_count_39 : decode cX6_count 39 = .ok (.aload_n 0, 1) := by decide +kernel
theorem dX6_count_40 : decode cX6_count 40 = .ok (.getfield 147, 3) := by decide +kernel
theorem dX6_count_43 : decode cX6_count 43 = .ok (.ireturn, 1) := by decide +kernel
theorem dX6_count_44 : decode cX6_count 44 = .ok (.aload_n 0, 1) := by decide +kernel
theorem dX6_count_45 : decode cX6_count 45 = .ok (.iconst 2, 1) := by decide +kernel
theorem dX6_count_46 : decode cX6_count 46 = .ok (.invokevirtual 141, 3) := by decide +kernel
theorem dX6_count_49 : decode cX6_count 49 = .ok (.ireturn, 1) := by decide +kernel
theorem dX6_count_50 : decode cX6_count 50 = .ok (.aload_n 0, 1) := by decide +kernel
theorem dX6_count_51 : decode cX6_count 51 = .ok (.iconst 3, 1) := by decide +kernel
theorem dX6_count_52 : decode cX6_count 52 = .ok (.invokevirtual 141, 3) := by decide +kernel
theorem dX6_count_55 : decode cX6_count 55 = .ok (.ireturn, 1) := by decide +kernel
theorem dX6_count_56 : decode cX6_count 56 = .ok (.aload_n 0, 1) := by decide +kernel
theorem dX6_count_57 : decode cX6_count 57 = .ok (.ldc 38, 2) := by decide +kernel
theorem dX6_count_59 : decode cX6_count 59 = .ok (.invokevirtual 40, 3) := by decide +kernel
theorem dX6_count_62 : decode cX6_count 62 = .ok (.ireturn, 1) := by decide +kernel
theorem dX6_status_0 : decode cX6_status 0 = .ok (.iload_n 1, 1) := by decide +kernel
theorem dX6_status_1 : decode cX6_status 1 = .ok (.i2l, 1) := by decide +kernel
theorem dX6_status_2 : decode cX6_status 2 = .ok (.iconst (-1), 1) := by decide +kernel
theorem dX6_status_3 : decode cX6_status 3 = .ok (.bipush 6, 2) := by decide +kernel
theorem dX6_status_5 : decode cX6_status 5 = .ok (.invokestatic 44, 3) := by decide +kernel
theorem dX6_status_8 : decode cX6_status 8 = .ok (.ifCond .ne 10, 3) := by decide +kernel
theorem dX6_status_11 : decode cX6_status 11 = .ok (.aload_n 0, 1) := by decide +kernel
theorem dX6_status_12 : decode cX6_status 12 = .ok (.ldc 38, 2) := by decide +kernel
theorem dX6_status_14 : decode cX6_status 14 = .ok (.invokevirtual 40, 3) := by decide +kernel
theorem dX6_status_17 : decode cX6_status 17 = .ok (.ireturn, 1) := by decide +kernel
theorem dX6_status_18 : decode cX6_status 18 = .ok (.iconst 0, 1) := by decide +kernel
theorem dX6_status_19 : decode cX6_status 19 = .ok (.istore_n 2, 1) := by decide +kernel
theorem dX6_status_20 : decode cX6_status 20 = .ok (.iconst 0, 1) := by decide +kernel
theorem dX6_status_21 : decode cX6_status 21 = .ok (.istore_n 3, 1) := by decide +kernel
theorem dX6_status_22 : decode cX6_status 22 = .ok (.iload_n 3, 1) := by decide +kernel
theorem dX6_status_23 : decode cX6_status 23 = .ok (.bipush 7, 2) := by decide +kernel
theorem dX6_status_25 : decode cX6_status 25 = .ok (.if_icmp .ge 31, 3) := by decide +kernel
theorem dX6_status_28 : decode cX6_status 28 = .ok (.iload_n 2, 1) := by decide +kernel
theorem dX6_status_29 : decode cX6_status 29 = .ok (.iload_n 1, 1) := by decide +kernel
theorem dX6_status_30 : decode cX6_status 30 = .ok (.ifCond .lt 8, 3) := by decide +kernel
theorem dX6_status_33 : decode cX6_status 33 = .ok (.iload_n 1, 1) := by decide +kernel
theorem dX6_status_34 : decode cX6_status 34 = .ok (.iload_n 3, 1) := by decide +kernel
theorem dX6_status_35 : decode cX6_status 35 = .ok (.if_icmp .ne 12, 3) := by decide +kernel
theorem dX6_status_38 : decode cX6_status 38 = .ok (.aload_n 0, 1) := by decide +kernel
theorem dX6_status_39 : decode cX6_status 39 = .ok (.getfield 19, 3) := by decide +kernel
theorem dX6_status_42 : decode cX6_status 42 = .ok (.iload_n 3, 1) := by decide +kernel
theorem dX6_status_43 : decode cX6_status 43 = .ok (.iaload, 1) := by decide +kernel
theorem dX6_status_44 : decode cX6_status 44 = .ok (.goto 4, 3) := by decide +kernel
theorem dX6_status_47 : decode cX6_status 47 = .ok (.iconst 0, 1) := by decide +kernel
theorem dX6_status_48 : decode cX6_status 48 = .ok (.iadd, 1) := by decide +kernel
theorem dX6_status_49 : decode cX6_status 49 = .ok (.istore_n 2, 1) := by decide +kernel
theorem dX6_status_50 : decode cX6_status 50 = .ok (.iinc 3 1, 3) := by decide +kernel
theorem dX6_status_53 : decode cX6_status 53 = .ok (.goto (-31), 3) := by decide +kernel
theorem dX6_status_56 : decode cX6_status 56 = .ok (.iload_n 2, 1) := by decide +kernel
theorem dX6_status_57 : decode cX6_status 57 = .ok (.ireturn, 1) := by decide +kernel
