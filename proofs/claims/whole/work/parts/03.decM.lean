theorem dz_M_init_0 : decode cz_M_init 0 = .ok (.aload_n 0, 1) := by decide +kernel
theorem dz_M_init_1 : decode cz_M_init 1 = .ok (.invokespecial 1, 3) := by decide +kernel
theorem dz_M_init_4 : decode cz_M_init 4 = .ok (.aload_n 0, 1) := by decide +kernel
theorem dz_M_init_5 : decode cz_M_init 5 = .ok (.bipush 61, 2) := by decide +kernel
theorem dz_M_init_7 : decode cz_M_init 7 = .ok (.newarray .int, 2) := by decide +kernel
theorem dz_M_init_9 : decode cz_M_init 9 = .ok (.putfield 7, 3) := by decide +kernel
theorem dz_M_init_12 : decode cz_M_init 12 = .ok (.aload_n 0, 1) := by decide +kernel
theorem dz_M_init_13 : decode cz_M_init 13 = .ok (.bipush 61, 2) := by decide +kernel
theorem dz_M_init_15 : decode cz_M_init 15 = .ok (.newarray .int, 2) := by decide +kernel
theorem dz_M_init_17 : decode cz_M_init 17 = .ok (.putfield 13, 3) := by decide +kernel
theorem dz_M_init_20 : decode cz_M_init 20 = .ok (.aload_n 0, 1) := by decide +kernel
theorem dz_M_init_21 : decode cz_M_init 21 = .ok (.bipush 61, 2) := by decide +kernel
theorem dz_M_init_23 : decode cz_M_init 23 = .ok (.newarray .long, 2) := by decide +kernel
theorem dz_M_init_25 : decode cz_M_init 25 = .ok (.putfield 16, 3) := by decide +kernel
theorem dz_M_init_28 : decode cz_M_init 28 = .ok (.aload_n 0, 1) := by decide +kernel
theorem dz_M_init_29 : decode cz_M_init 29 = .ok (.bipush 61, 2) := by decide +kernel
theorem dz_M_init_31 : decode cz_M_init 31 = .ok (.newarray .boolean, 2) := by decide +kernel
theorem dz_M_init_33 : decode cz_M_init 33 = .ok (.putfield 20, 3) := by decide +kernel
theorem dz_M_init_36 : decode cz_M_init 36 = .ok (.aload_n 0, 1) := by decide +kernel
theorem dz_M_init_37 : decode cz_M_init 37 = .ok (.bipush 61, 2) := by decide +kernel
theorem dz_M_init_39 : decode cz_M_init 39 = .ok (.newarray .int, 2) := by decide +kernel
theorem dz_M_init_41 : decode cz_M_init 41 = .ok (.putfield 24, 3) := by decide +kernel
theorem dz_M_init_44 : decode cz_M_init 44 = .ok (.aload_n 0, 1) := by decide +kernel
theorem dz_M_init_45 : decode cz_M_init 45 = .ok (.bipush 61, 2) := by decide +kernel
theorem dz_M_init_47 : decode cz_M_init 47 = .ok (.newarray .int, 2) := by decide +kernel
theorem dz_M_init_49 : decode cz_M_init 49 = .ok (.putfield 27, 3) := by decide +kernel
theorem dz_M_init_52 : decode cz_M_init 52 = .ok (.aload_n 0, 1) := by decide +kernel
theorem dz_M_init_53 : decode cz_M_init 53 = .ok (.bipush 61, 2) := by decide +kernel
theorem dz_M_init_55 : decode cz_M_init 55 = .ok (.newarray .long, 2) := by decide +kernel
theorem dz_M_init_57 : decode cz_M_init 57 = .ok (.putfield 30, 3) := by decide +kernel
theorem dz_M_init_60 : decode cz_M_init 60 = .ok (.aload_n 0, 1) := by decide +kernel
theorem dz_M_init_61 : decode cz_M_init 61 = .ok (.bipush 61, 2) := by decide +kernel
theorem dz_M_init_63 : decode cz_M_init 63 = .ok (.newarray .boolean, 2) := by decide +kernel
theorem dz_M_init_65 : decode cz_M_init 65 = .ok (.putfield 33, 3) := by decide +kernel
theorem dz_M_init_68 : decode cz_M_init 68 = .ok (.aload_n 0, 1) := by decide +kernel
theorem dz_M_init_69 : decode cz_M_init 69 = .ok (.bipush 61, 2) := by decide +kernel
theorem dz_M_init_71 : decode cz_M_init 71 = .ok (.newarray .long, 2) := by decide +kernel
theorem dz_M_init_73 : decode cz_M_init 73 = .ok (.putfield 36, 3) := by decide +kernel
theorem dz_M_init_76 : decode cz_M_init 76 = .ok (.aload_n 0, 1) := by decide +kernel
theorem dz_M_init_77 : decode cz_M_init 77 = .ok (.sipush 200, 3) := by decide +kernel
theorem dz_M_init_80 : decode cz_M_init 80 = .ok (.newarray .int, 2) := by decide +kernel
theorem dz_M_init_82 : decode cz_M_init 82 = .ok (.putfield 39, 3) := by decide +kernel
theorem dz_M_init_85 : decode cz_M_init 85 = .ok (.aload_n 0, 1) := by decide +kernel
theorem dz_M_init_86 : decode cz_M_init 86 = .ok (.bipush 100, 2) := by decide +kernel
theorem dz_M_init_88 : decode cz_M_init 88 = .ok (.newarray .int, 2) := by decide +kernel
theorem dz_M_init_90 : decode cz_M_init 90 = .ok (.putfield 42, 3) := by decide +kernel
theorem dz_M_init_93 : decode cz_M_init 93 = .ok (.aload_n 0, 1) := by decide +kernel
theorem dz_M_init_94 : decode cz_M_init 94 = .ok (.iconst 0, 1) := by decide +kernel
theorem dz_M_init_95 : decode cz_M_init 95 = .ok (.putfield 45, 3) := by decide +kernel
theorem dz_M_init_98 : decode cz_M_init 98 = .ok (.return_, 1) := by decide +kernel
theorem dz_M_within_0 : decode cz_M_within 0 = .ok (.lload_n 0, 1) := by decide +kernel
theorem dz_M_within_1 : decode cz_M_within 1 = .ok (.lload_n 2, 1) := by decide +kernel
theorem dz_M_within_2 : decode cz_M_within 2 = .ok (.lcmp, 1) := by decide +kernel
theorem dz_M_within_3 : decode cz_M_within 3 = .ok (.ifCond .lt 14, 3) := by decide +kernel
theorem dz_M_within_6 : decode cz_M_within 6 = .ok (.lload_n 0, 1) := by decide +kernel
theorem dz_M_within_7 : decode cz_M_within 7 = .ok (.lload 4, 2) := by decide +kernel
theorem dz_M_within_9 : decode cz_M_within 9 = .ok (.lcmp, 1) := by decide +kernel
theorem dz_M_within_10 : decode cz_M_within 10 = .ok (.ifCond .gt 7, 3) := by decide +kernel
theorem dz_M_within_13 : decode cz_M_within 13 = .ok (.iconst 1, 1) := by decide +kernel
theorem dz_M_within_14 : decode cz_M_within 14 = .ok (.goto 4, 3) := by decide +kernel
theorem dz_M_within_17 : decode cz_M_within 17 = .ok (.iconst 0, 1) := by decide +kernel
theorem dz_M_within_18 : decode cz_M_within 18 = .ok (.ireturn, 1) := by decide +kernel
theorem dz_M_isBox_0 : decode cz_M_isBox 0 = .ok (.iload_n 1, 1) := by decide +kernel
theorem dz_M_isBox_1 : decode cz_M_isBox 1 = .ok (.i2l, 1) := by decide +kernel
theorem dz_M_isBox_2 : decode cz_M_isBox 2 = .ok (.lconst 1, 1) := by decide +kernel
theorem dz_M_isBox_3 : decode cz_M_isBox 3 = .ok (.aload_n 0, 1) := by decide +kernel
theorem dz_M_isBox_4 : decode cz_M_isBox 4 = .ok (.getfield 45, 3) := by decide +kernel
theorem dz_M_isBox_7 : decode cz_M_isBox 7 = .ok (.i2l, 1) := by decide +kernel
theorem dz_M_isBox_8 : decode cz_M_isBox 8 = .ok (.invokestatic 49, 3) := by decide +kernel
theorem dz_M_isBox_11 : decode cz_M_isBox 11 = .ok (.ireturn, 1) := by decide +kernel
theorem dz_M_box_0 : decode cz_M_box 0 = .ok (.iload_n 1, 1) := by decide +kernel
theorem dz_M_box_1 : decode cz_M_box 1 = .ok (.i2l, 1) := by decide +kernel
theorem dz_M_box_2 : decode cz_M_box 2 = .ok (.lconst 1, 1) := by decide +kernel
theorem dz_M_box_3 : decode cz_M_box 3 = .ok (.ldc2_w 53, 3) := by decide +kernel
theorem dz_M_box_6 : decode cz_M_box 6 = .ok (.invokestatic 49, 3) := by decide +kernel
theorem dz_M_box_9 : decode cz_M_box 9 = .ok (.ifCond .ne 6, 3) := by decide +kernel
theorem dz_M_box_12 : decode cz_M_box 12 = .ok (.bipush (-12), 2) := by decide +kernel
theorem dz_M_box_14 : decode cz_M_box 14 = .ok (.ireturn, 1) := by decide +kernel
theorem dz_M_box_15 : decode cz_M_box 15 = .ok (.aload_n 0, 1) := by decide +kernel
theorem dz_M_box_16 : decode cz_M_box 16 = .ok (.getfield 45, 3) := by decide +kernel
theorem dz_M_box_19 : decode cz_M_box 19 = .ok (.bipush 60, 2) := by decide +kernel
theorem dz_M_box_21 : decode cz_M_box 21 = .ok (.if_icmp .ne 6, 3) := by decide +kernel
theorem dz_M_box_24 : decode cz_M_box 24 = .ok (.bipush (-14), 2) := by decide +kernel
theorem dz_M_box_26 : decode cz_M_box 26 = .ok (.ireturn, 1) := by decide +kernel
theorem dz_M_box_27 : decode cz_M_box 27 = .ok (.aload_n 0, 1) := by decide +kernel
theorem dz_M_box_28 : decode cz_M_box 28 = .ok (.dup, 1) := by decide +kernel
theorem dz_M_box_29 : decode cz_M_box 29 = .ok (.getfield 45, 3) := by decide +kernel
theorem dz_M_box_32 : decode cz_M_box 32 = .ok (.iconst 1, 1) := by decide +kernel
theorem dz_M_box_33 : decode cz_M_box 33 = .ok (.iadd, 1) := by decide +kernel
theorem dz_M_box_34 : decode cz_M_box 34 = .ok (.putfield 45, 3) := by decide +kernel
theorem dz_M_box_37 : decode cz_M_box 37 = .ok (.aload_n 0, 1) := by decide +kernel
theorem dz_M_box_38 : decode cz_M_box 38 = .ok (.getfield 7, 3) := by decide +kernel
theorem dz_M_box_41 : decode cz_M_box 41 = .ok (.aload_n 0, 1) := by decide +kernel
theorem dz_M_box_42 : decode cz_M_box 42 = .ok (.getfield 45, 3) := by decide +kernel
theorem dz_M_box_45 : decode cz_M_box 45 = .ok (.iload_n 1, 1) := by decide +kernel
theorem dz_M_box_46 : decode cz_M_box 46 = .ok (.iastore, 1) := by decide +kernel
theorem dz_M_box_47 : decode cz_M_box 47 = .ok (.aload_n 0, 1) := by decide +kernel
theorem dz_M_box_48 : decode cz_M_box 48 = .ok (.getfield 27, 3) := by decide +kernel
theorem dz_M_box_51 : decode cz_M_box 51 = .ok (.aload_n 0, 1) := by decide +kernel
theorem dz_M_box_52 : decode cz_M_box 52 = .ok (.getfield 45, 3) := by decide +kernel
theorem dz_M_box_55 : decode cz_M_box 55 = .ok (.iconst (-1), 1) := by decide +kernel
theorem dz_M_box_56 : decode cz_M_box 56 = .ok (.iastore, 1) := by decide +kernel
theorem dz_M_box_57 : decode cz_M_box 57 = .ok (.aload_n 0, 1) := by decide +kernel
theorem dz_M_box_58 : decode cz_M_box 58 = .ok (.getfield 45, 3) := by decide +kernel
theorem dz_M_box_61 : decode cz_M_box 61 = .ok (.ireturn, 1) := by decide +kernel
theorem dz_M_tape_0 : decode cz_M_tape 0 = .ok (.iload_n 1, 1) := by decide +kernel
theorem dz_M_tape_1 : decode cz_M_tape 1 = .ok (.i2l, 1) := by decide +kernel
theorem dz_M_tape_2 : decode cz_M_tape 2 = .ok (.lconst 0, 1) := by decide +kernel
theorem dz_M_tape_3 : decode cz_M_tape 3 = .ok (.ldc2_w 55, 3) := by decide +kernel
theorem dz_M_tape_6 : decode cz_M_tape 6 = .ok (.invokestatic 49, 3) := by decide +kernel
theorem dz_M_tape_9 : decode cz_M_tape 9 = .ok (.ifCond .ne 6, 3) := by decide +kernel
theorem dz_M_tape_12 : decode cz_M_tape 12 = .ok (.bipush (-12), 2) := by decide +kernel
theorem dz_M_tape_14 : decode cz_M_tape 14 = .ok (.ireturn, 1) := by decide +kernel
theorem dz_M_tape_15 : decode cz_M_tape 15 = .ok (.aload_n 0, 1) := by decide +kernel
theorem dz_M_tape_16 : decode cz_M_tape 16 = .ok (.getfield 57, 3) := by decide +kernel
theorem dz_M_tape_19 : decode cz_M_tape 19 = .ok (.sipush 200, 3) := by decide +kernel
theorem dz_M_tape_22 : decode cz_M_tape 22 = .ok (.if_icmp .ne 6, 3) := by decide +kernel
theorem dz_M_tape_25 : decode cz_M_tape 25 = .ok (.bipush (-14), 2) := by decide +kernel
theorem dz_M_tape_27 : decode cz_M_tape 27 = .ok (.ireturn, 1) := by decide +kernel
theorem dz_M_tape_28 : decode cz_M_tape 28 = .ok (.aload_n 0, 1) := by decide +kernel
theorem dz_M_tape_29 : decode cz_M_tape 29 = .ok (.getfield 39, 3) := by decide +kernel
theorem dz_M_tape_32 : decode cz_M_tape 32 = .ok (.aload_n 0, 1) := by decide +kernel
theorem dz_M_tape_33 : decode cz_M_tape 33 = .ok (.getfield 57, 3) := by decide +kernel
theorem dz_M_tape_36 : decode cz_M_tape 36 = .ok (.iload_n 1, 1) := by decide +kernel
theorem dz_M_tape_37 : decode cz_M_tape 37 = .ok (.iastore, 1) := by decide +kernel
theorem dz_M_tape_38 : decode cz_M_tape 38 = .ok (.aload_n 0, 1) := by decide +kernel
theorem dz_M_tape_39 : decode cz_M_tape 39 = .ok (.dup, 1) := by decide +kernel
theorem dz_M_tape_40 : decode cz_M_tape 40 = .ok (.getfield 57, 3) := by decide +kernel
theorem dz_M_tape_43 : decode cz_M_tape 43 = .ok (.iconst 1, 1) := by decide +kernel
theorem dz_M_tape_44 : decode cz_M_tape 44 = .ok (.iadd, 1) := by decide +kernel
theorem dz_M_tape_45 : decode cz_M_tape 45 = .ok (.putfield 57, 3) := by decide +kernel
theorem dz_M_tape_48 : decode cz_M_tape 48 = .ok (.aload_n 0, 1) := by decide +kernel
theorem dz_M_tape_49 : decode cz_M_tape 49 = .ok (.getfield 57, 3) := by decide +kernel
theorem dz_M_tape_52 : decode cz_M_tape 52 = .ok (.ireturn, 1) := by decide +kernel
theorem dz_M_isNoTime_0 : decode cz_M_isNoTime 0 = .ok (.lload_n 1, 1) := by decide +kernel
theorem dz_M_isNoTime_1 : decode cz_M_isNoTime 1 = .ok (.aload_n 0, 1) := by decide +kernel
theorem dz_M_isNoTime_2 : decode cz_M_isNoTime 2 = .ok (.getfield 60, 3) := by decide +kernel
theorem dz_M_isNoTime_5 : decode cz_M_isNoTime 5 = .ok (.lcmp, 1) := by decide +kernel
theorem dz_M_isNoTime_6 : decode cz_M_isNoTime 6 = .ok (.ifCond .lt 11, 3) := by decide +kernel
theorem dz_M_isNoTime_9 : decode cz_M_isNoTime 9 = .ok (.lload_n 1, 1) := by decide +kernel
theorem dz_M_isNoTime_10 : decode cz_M_isNoTime 10 = .ok (.ldc2_w 64, 3) := by decide +kernel
theorem dz_M_isNoTime_13 : decode cz_M_isNoTime 13 = .ok (.lcmp, 1) := by decide +kernel
theorem dz_M_isNoTime_14 : decode cz_M_isNoTime 14 = .ok (.ifCond .le 7, 3) := by decide +kernel
theorem dz_M_isNoTime_17 : decode cz_M_isNoTime 17 = .ok (.iconst 1, 1) := by decide +kernel
theorem dz_M_isNoTime_18 : decode cz_M_isNoTime 18 = .ok (.goto 4, 3) := by decide +kernel
theorem dz_M_isNoTime_21 : decode cz_M_isNoTime 21 = .ok (.iconst 0, 1) := by decide +kernel
theorem dz_M_isNoTime_22 : decode cz_M_isNoTime 22 = .ok (.ireturn, 1) := by decide +kernel
theorem dz_M_pass_0 : decode cz_M_pass 0 = .ok (.aload_n 0, 1) := by decide +kernel
theorem dz_M_pass_1 : decode cz_M_pass 1 = .ok (.lload_n 1, 1) := by decide +kernel
theorem dz_M_pass_2 : decode cz_M_pass 2 = .ok (.putfield 60, 3) := by decide +kernel
theorem dz_M_pass_5 : decode cz_M_pass 5 = .ok (.iconst 1, 1) := by decide +kernel
theorem dz_M_pass_6 : decode cz_M_pass 6 = .ok (.istore_n 3, 1) := by decide +kernel
theorem dz_M_pass_7 : decode cz_M_pass 7 = .ok (.iload_n 3, 1) := by decide +kernel
theorem dz_M_pass_8 : decode cz_M_pass 8 = .ok (.aload_n 0, 1) := by decide +kernel
theorem dz_M_pass_9 : decode cz_M_pass 9 = .ok (.getfield 45, 3) := by decide +kernel
theorem dz_M_pass_12 : decode cz_M_pass 12 = .ok (.if_icmp .gt 190, 3) := by decide +kernel
theorem dz_M_pass_15 : decode cz_M_pass 15 = .ok (.aload_n 0, 1) := by decide +kernel
theorem dz_M_pass_16 : decode cz_M_pass 16 = .ok (.getfield 36, 3) := by decide +kernel
theorem dz_M_pass_19 : decode cz_M_pass 19 = .ok (.iload_n 3, 1) := by decide +kernel
theorem dz_M_pass_20 : decode cz_M_pass 20 = .ok (.laload, 1) := by decide +kernel
theorem dz_M_pass_21 : decode cz_M_pass 21 = .ok (.lconst 0, 1) := by decide +kernel
theorem dz_M_pass_22 : decode cz_M_pass 22 = .ok (.lcmp, 1) := by decide +kernel
theorem dz_M_pass_23 : decode cz_M_pass 23 = .ok (.ifCond .le 50, 3) := by decide +kernel
theorem dz_M_pass_26 : decode cz_M_pass 26 = .ok (.aload_n 0, 1) := by decide +kernel
theorem dz_M_pass_27 : decode cz_M_pass 27 = .ok (.getfield 36, 3) := by decide +kernel
theorem dz_M_pass_30 : decode cz_M_pass 30 = .ok (.iload_n 3, 1) := by decide +kernel
theorem dz_M_pass_31 : decode cz_M_pass 31 = .ok (.laload, 1) := by decide +kernel
theorem dz_M_pass_32 : decode cz_M_pass 32 = .ok (.lload_n 1, 1) := by decide +kernel
theorem dz_M_pass_33 : decode cz_M_pass 33 = .ok (.lcmp, 1) := by decide +kernel
theorem dz_M_pass_34 : decode cz_M_pass 34 = .ok (.ifCond .gt 39, 3) := by decide +kernel
theorem dz_M_pass_37 : decode cz_M_pass 37 = .ok (.aload_n 0, 1) := by decide +kernel
theorem dz_M_pass_38 : decode cz_M_pass 38 = .ok (.getfield 36, 3) := by decide +kernel
theorem dz_M_pass_41 : decode cz_M_pass 41 = .ok (.iload_n 3, 1) := by decide +kernel
theorem dz_M_pass_42 : decode cz_M_pass 42 = .ok (.lconst 0, 1) := by decide +kernel
theorem dz_M_pass_43 : decode cz_M_pass 43 = .ok (.lastore, 1) := by decide +kernel
theorem dz_M_pass_44 : decode cz_M_pass 44 = .ok (.aload_n 0, 1) := by decide +kernel
theorem dz_M_pass_45 : decode cz_M_pass 45 = .ok (.getfield 66, 3) := by decide +kernel
theorem dz_M_pass_48 : decode cz_M_pass 48 = .ok (.bipush 100, 2) := by decide +kernel
theorem dz_M_pass_50 : decode cz_M_pass 50 = .ok (.if_icmp .ge 23, 3) := by decide +kernel
theorem dz_M_pass_53 : decode cz_M_pass 53 = .ok (.aload_n 0, 1) := by decide +kernel
theorem dz_M_pass_54 : decode cz_M_pass 54 = .ok (.getfield 42, 3) := by decide +kernel
theorem dz_M_pass_57 : decode cz_M_pass 57 = .ok (.aload_n 0, 1) := by decide +kernel
theorem dz_M_pass_58 : decode cz_M_pass 58 = .ok (.getfield 66, 3) := by decide +kernel
theorem dz_M_pass_61 : decode cz_M_pass 61 = .ok (.iload_n 3, 1) := by decide +kernel
theorem dz_M_pass_62 : decode cz_M_pass 62 = .ok (.iastore, 1) := by decide +kernel
theorem dz_M_pass_63 : decode cz_M_pass 63 = .ok (.aload_n 0, 1) := by decide +kernel
theorem dz_M_pass_64 : decode cz_M_pass 64 = .ok (.dup, 1) := by decide +kernel
theorem dz_M_pass_65 : decode cz_M_pass 65 = .ok (.getfield 66, 3) := by decide +kernel
theorem dz_M_pass_68 : decode cz_M_pass 68 = .ok (.iconst 1, 1) := by decide +kernel
theorem dz_M_pass_69 : decode cz_M_pass 69 = .ok (.iadd, 1) := by decide +kernel
theorem dz_M_pass_70 : decode cz_M_pass 70 = .ok (.putfield 66, 3) := by decide +kernel
theorem dz_M_pass_73 : decode cz_M_pass 73 = .ok (.aload_n 0, 1) := by decide +kernel
theorem dz_M_pass_74 : decode cz_M_pass 74 = .ok (.getfield 13, 3) := by decide +kernel
theorem dz_M_pass_77 : decode cz_M_pass 77 = .ok (.iload_n 3, 1) := by decide +kernel
theorem dz_M_pass_78 : decode cz_M_pass 78 = .ok (.iaload, 1) := by decide +kernel
theorem dz_M_pass_79 : decode cz_M_pass 79 = .ok (.iconst 1, 1) := by decide +kernel
theorem dz_M_pass_80 : decode cz_M_pass 80 = .ok (.if_icmp .eq 13, 3) := by decide +kernel
theorem dz_M_pass_83 : decode cz_M_pass 83 = .ok (.aload_n 0, 1) := by decide +kernel
theorem dz_M_pass_84 : decode cz_M_pass 84 = .ok (.getfield 13, 3) := by decide +kernel
theorem dz_M_pass_87 : decode cz_M_pass 87 = .ok (.iload_n 3, 1) := by decide +kernel
theorem dz_M_pass_88 : decode cz_M_pass 88 = .ok (.iaload, 1) := by decide +kernel
theorem dz_M_pass_89 : decode cz_M_pass 89 = .ok (.iconst 2, 1) := by decide +kernel
theorem dz_M_pass_90 : decode cz_M_pass 90 = .ok (.if_icmp .ne 7, 3) := by decide +kernel
theorem dz_M_pass_93 : decode cz_M_pass 93 = .ok (.iconst 1, 1) := by decide +kernel
theorem dz_M_pass_94 : decode cz_M_pass 94 = .ok (.goto 4, 3) := by decide +kernel
theorem dz_M_pass_97 : decode cz_M_pass 97 = .ok (.iconst 0, 1) := by decide +kernel
theorem dz_M_pass_98 : decode cz_M_pass 98 = .ok (.istore 4, 2) := by decide +kernel
theorem dz_M_pass_100 : decode cz_M_pass 100 = .ok (.iload 4, 2) := by decide +kernel
theorem dz_M_pass_102 : decode cz_M_pass 102 = .ok (.ifCond .eq 44, 3) := by decide +kernel
theorem dz_M_pass_105 : decode cz_M_pass 105 = .ok (.aload_n 0, 1) := by decide +kernel
theorem dz_M_pass_106 : decode cz_M_pass 106 = .ok (.getfield 20, 3) := by decide +kernel
theorem dz_M_pass_109 : decode cz_M_pass 109 = .ok (.iload_n 3, 1) := by decide +kernel
theorem dz_M_pass_110 : decode cz_M_pass 110 = .ok (.baload, 1) := by decide +kernel
theorem dz_M_pass_111 : decode cz_M_pass 111 = .ok (.ifCond .ne 35, 3) := by decide +kernel
theorem dz_M_pass_114 : decode cz_M_pass 114 = .ok (.lload_n 1, 1) := by decide +kernel
theorem dz_M_pass_115 : decode cz_M_pass 115 = .ok (.aload_n 0, 1) := by decide +kernel
theorem dz_M_pass_116 : decode cz_M_pass 116 = .ok (.getfield 16, 3) := by decide +kernel
theorem dz_M_pass_119 : decode cz_M_pass 119 = .ok (.iload_n 3, 1) := by decide +kernel
theorem dz_M_pass_120 : decode cz_M_pass 120 = .ok (.laload, 1) := by decide +kernel
theorem dz_M_pass_121 : decode cz_M_pass 121 = .ok (.lsub, 1) := by decide +kernel
theorem dz_M_pass_122 : decode cz_M_pass 122 = .ok (.ldc2_w 69, 3) := by decide +kernel
theorem dz_M_pass_125 : decode cz_M_pass 125 = .ok (.lcmp, 1) := by decide +kernel
theorem dz_M_pass_126 : decode cz_M_pass 126 = .ok (.ifCond .lt 20, 3) := by decide +kernel
theorem dz_M_pass_129 : decode cz_M_pass 129 = .ok (.aload_n 0, 1) := by decide +kernel
theorem dz_M_pass_130 : decode cz_M_pass 130 = .ok (.getfield 20, 3) := by decide +kernel
theorem dz_M_pass_133 : decode cz_M_pass 133 = .ok (.iload_n 3, 1) := by decide +kernel
theorem dz_M_pass_134 : decode cz_M_pass 134 = .ok (.iconst 1, 1) := by decide +kernel
theorem dz_M_pass_135 : decode cz_M_pass 135 = .ok (.bastore, 1) := by decide +kernel
theorem dz_M_pass_136 : decode cz_M_pass 136 = .ok (.aload_n 0, 1) := by decide +kernel
theorem dz_M_pass_137 : decode cz_M_pass 137 = .ok (.dup, 1) := by decide +kernel
theorem dz_M_pass_138 : decode cz_M_pass 138 = .ok (.getfield 71, 3) := by decide +kernel
theorem dz_M_pass_141 : decode cz_M_pass 141 = .ok (.iconst 1, 1) := by decide +kernel
theorem dz_M_pass_142 : decode cz_M_pass 142 = .ok (.iadd, 1) := by decide +kernel
theorem dz_M_pass_143 : decode cz_M_pass 143 = .ok (.putfield 71, 3) := by decide +kernel
theorem dz_M_pass_146 : decode cz_M_pass 146 = .ok (.aload_n 0, 1) := by decide +kernel
theorem dz_M_pass_147 : decode cz_M_pass 147 = .ok (.getfield 27, 3) := by decide +kernel
theorem dz_M_pass_150 : decode cz_M_pass 150 = .ok (.iload_n 3, 1) := by decide +kernel
theorem dz_M_pass_151 : decode cz_M_pass 151 = .ok (.iaload, 1) := by decide +kernel
theorem dz_M_pass_152 : decode cz_M_pass 152 = .ok (.ifCond .lt 44, 3) := by decide +kernel
theorem dz_M_pass_155 : decode cz_M_pass 155 = .ok (.aload_n 0, 1) := by decide +kernel
theorem dz_M_pass_156 : decode cz_M_pass 156 = .ok (.getfield 33, 3) := by decide +kernel
theorem dz_M_pass_159 : decode cz_M_pass 159 = .ok (.iload_n 3, 1) := by decide +kernel
theorem dz_M_pass_160 : decode cz_M_pass 160 = .ok (.baload, 1) := by decide +kernel
theorem dz_M_pass_161 : decode cz_M_pass 161 = .ok (.ifCond .ne 35, 3) := by decide +kernel
theorem dz_M_pass_164 : decode cz_M_pass 164 = .ok (.lload_n 1, 1) := by decide +kernel
theorem dz_M_pass_165 : decode cz_M_pass 165 = .ok (.aload_n 0, 1) := by decide +kernel
theorem dz_M_pass_166 : decode cz_M_pass 166 = .ok (.getfield 30, 3) := by decide +kernel
theorem dz_M_pass_169 : decode cz_M_pass 169 = .ok (.iload_n 3, 1) := by decide +kernel
theorem dz_M_pass_170 : decode cz_M_pass 170 = .ok (.laload, 1) := by decide +kernel
theorem dz_M_pass_171 : decode cz_M_pass 171 = .ok (.lsub, 1) := by decide +kernel
theorem dz_M_pass_172 : decode cz_M_pass 172 = .ok (.ldc2_w 74, 3) := by decide +kernel
theorem dz_M_pass_175 : decode cz_M_pass 175 = .ok (.lcmp, 1) := by decide +kernel
theorem dz_M_pass_176 : decode cz_M_pass 176 = .ok (.ifCond .lt 20, 3) := by decide +kernel
theorem dz_M_pass_179 : decode cz_M_pass 179 = .ok (.aload_n 0, 1) := by decide +kernel
theorem dz_M_pass_180 : decode cz_M_pass 180 = .ok (.getfield 33, 3) := by decide +kernel
theorem dz_M_pass_183 : decode cz_M_pass 183 = .ok (.iload_n 3, 1) := by decide +kernel
theorem dz_M_pass_184 : decode cz_M_pass 184 = .ok (.iconst 1, 1) := by decide +kernel
theorem dz_M_pass_185 : decode cz_M_pass 185 = .ok (.bastore, 1) := by decide +kernel
theorem dz_M_pass_186 : decode cz_M_pass 186 = .ok (.aload_n 0, 1) := by decide +kernel
theorem dz_M_pass_187 : decode cz_M_pass 187 = .ok (.dup, 1) := by decide +kernel
theorem dz_M_pass_188 : decode cz_M_pass 188 = .ok (.getfield 71, 3) := by decide +kernel
theorem dz_M_pass_191 : decode cz_M_pass 191 = .ok (.iconst 1, 1) := by decide +kernel
theorem dz_M_pass_192 : decode cz_M_pass 192 = .ok (.iadd, 1) := by decide +kernel
theorem dz_M_pass_193 : decode cz_M_pass 193 = .ok (.putfield 71, 3) := by decide +kernel
theorem dz_M_pass_196 : decode cz_M_pass 196 = .ok (.iinc 3 1, 3) := by decide +kernel
theorem dz_M_pass_199 : decode cz_M_pass 199 = .ok (.goto (-192), 3) := by decide +kernel
theorem dz_M_pass_202 : decode cz_M_pass 202 = .ok (.return_, 1) := by decide +kernel
theorem dz_M_reserve_0 : decode cz_M_reserve 0 = .ok (.iload_n 1, 1) := by decide +kernel
theorem dz_M_reserve_1 : decode cz_M_reserve 1 = .ok (.i2l, 1) := by decide +kernel
theorem dz_M_reserve_2 : decode cz_M_reserve 2 = .ok (.lconst 1, 1) := by decide +kernel
theorem dz_M_reserve_3 : decode cz_M_reserve 3 = .ok (.ldc2_w 53, 3) := by decide +kernel
theorem dz_M_reserve_6 : decode cz_M_reserve 6 = .ok (.invokestatic 49, 3) := by decide +kernel
theorem dz_M_reserve_9 : decode cz_M_reserve 9 = .ok (.ifCond .eq 20, 3) := by decide +kernel
theorem dz_M_reserve_12 : decode cz_M_reserve 12 = .ok (.lload_n 2, 1) := by decide +kernel
theorem dz_M_reserve_13 : decode cz_M_reserve 13 = .ok (.aload_n 0, 1) := by decide +kernel
theorem dz_M_reserve_14 : decode cz_M_reserve 14 = .ok (.getfield 60, 3) := by decide +kernel
theorem dz_M_reserve_17 : decode cz_M_reserve 17 = .ok (.lcmp, 1) := by decide +kernel
theorem dz_M_reserve_18 : decode cz_M_reserve 18 = .ok (.ifCond .le 11, 3) := by decide +kernel
theorem dz_M_reserve_21 : decode cz_M_reserve 21 = .ok (.lload_n 2, 1) := by decide +kernel
theorem dz_M_reserve_22 : decode cz_M_reserve 22 = .ok (.ldc2_w 64, 3) := by decide +kernel
theorem dz_M_reserve_25 : decode cz_M_reserve 25 = .ok (.lcmp, 1) := by decide +kernel
theorem dz_M_reserve_26 : decode cz_M_reserve 26 = .ok (.ifCond .le 6, 3) := by decide +kernel
theorem dz_M_reserve_29 : decode cz_M_reserve 29 = .ok (.bipush (-12), 2) := by decide +kernel
theorem dz_M_reserve_31 : decode cz_M_reserve 31 = .ok (.ireturn, 1) := by decide +kernel
theorem dz_M_reserve_32 : decode cz_M_reserve 32 = .ok (.iconst 0, 1) := by decide +kernel
theorem dz_M_reserve_33 : decode cz_M_reserve 33 = .ok (.istore 4, 2) := by decide +kernel
theorem dz_M_reserve_35 : decode cz_M_reserve 35 = .ok (.iconst 1, 1) := by decide +kernel
theorem dz_M_reserve_36 : decode cz_M_reserve 36 = .ok (.istore 5, 2) := by decide +kernel
theorem dz_M_reserve_38 : decode cz_M_reserve 38 = .ok (.iload 5, 2) := by decide +kernel
theorem dz_M_reserve_40 : decode cz_M_reserve 40 = .ok (.aload_n 0, 1) := by decide +kernel
theorem dz_M_reserve_41 : decode cz_M_reserve 41 = .ok (.getfield 45, 3) := by decide +kernel
theorem dz_M_reserve_44 : decode cz_M_reserve 44 = .ok (.if_icmp .gt 95, 3) := by decide +kernel
theorem dz_M_reserve_47 : decode cz_M_reserve 47 = .ok (.aload_n 0, 1) := by decide +kernel
theorem dz_M_reserve_48 : decode cz_M_reserve 48 = .ok (.getfield 13, 3) := by decide +kernel
theorem dz_M_reserve_51 : decode cz_M_reserve 51 = .ok (.iload 5, 2) := by decide +kernel
theorem dz_M_reserve_53 : decode cz_M_reserve 53 = .ok (.iaload, 1) := by decide +kernel
theorem dz_M_reserve_54 : decode cz_M_reserve 54 = .ok (.ifCond .ne 40, 3) := by decide +kernel
theorem dz_M_reserve_57 : decode cz_M_reserve 57 = .ok (.aload_n 0, 1) := by decide +kernel
theorem dz_M_reserve_58 : decode cz_M_reserve 58 = .ok (.getfield 24, 3) := by decide +kernel
theorem dz_M_reserve_61 : decode cz_M_reserve 61 = .ok (.iload 5, 2) := by decide +kernel
theorem dz_M_reserve_63 : decode cz_M_reserve 63 = .ok (.iaload, 1) := by decide +kernel
theorem dz_M_reserve_64 : decode cz_M_reserve 64 = .ok (.ifCond .ne 30, 3) := by decide +kernel
theorem dz_M_reserve_67 : decode cz_M_reserve 67 = .ok (.aload_n 0, 1) := by decide +kernel
theorem dz_M_reserve_68 : decode cz_M_reserve 68 = .ok (.getfield 36, 3) := by decide +kernel
theorem dz_M_reserve_71 : decode cz_M_reserve 71 = .ok (.iload 5, 2) := by decide +kernel
theorem dz_M_reserve_73 : decode cz_M_reserve 73 = .ok (.laload, 1) := by decide +kernel
theorem dz_M_reserve_74 : decode cz_M_reserve 74 = .ok (.lconst 0, 1) := by decide +kernel
theorem dz_M_reserve_75 : decode cz_M_reserve 75 = .ok (.lcmp, 1) := by decide +kernel
theorem dz_M_reserve_76 : decode cz_M_reserve 76 = .ok (.ifCond .ne 18, 3) := by decide +kernel
theorem dz_M_reserve_79 : decode cz_M_reserve 79 = .ok (.aload_n 0, 1) := by decide +kernel
theorem dz_M_reserve_80 : decode cz_M_reserve 80 = .ok (.getfield 7, 3) := by decide +kernel
theorem dz_M_reserve_83 : decode cz_M_reserve 83 = .ok (.iload 5, 2) := by decide +kernel
theorem dz_M_reserve_85 : decode cz_M_reserve 85 = .ok (.iaload, 1) := by decide +kernel
theorem dz_M_reserve_86 : decode cz_M_reserve 86 = .ok (.iload_n 1, 1) := by decide +kernel
theorem dz_M_reserve_87 : decode cz_M_reserve 87 = .ok (.if_icmp .lt 7, 3) := by decide +kernel
theorem dz_M_reserve_90 : decode cz_M_reserve 90 = .ok (.iconst 1, 1) := by decide +kernel
theorem dz_M_reserve_91 : decode cz_M_reserve 91 = .ok (.goto 4, 3) := by decide +kernel
theorem dz_M_reserve_94 : decode cz_M_reserve 94 = .ok (.iconst 0, 1) := by decide +kernel
theorem dz_M_reserve_95 : decode cz_M_reserve 95 = .ok (.istore 6, 2) := by decide +kernel
theorem dz_M_reserve_97 : decode cz_M_reserve 97 = .ok (.iload 6, 2) := by decide +kernel
theorem dz_M_reserve_99 : decode cz_M_reserve 99 = .ok (.ifCond .eq 30, 3) := by decide +kernel
theorem dz_M_reserve_102 : decode cz_M_reserve 102 = .ok (.iload 4, 2) := by decide +kernel
theorem dz_M_reserve_104 : decode cz_M_reserve 104 = .ok (.ifCond .eq 20, 3) := by decide +kernel
theorem dz_M_reserve_107 : decode cz_M_reserve 107 = .ok (.aload_n 0, 1) := by decide +kernel
theorem dz_M_reserve_108 : decode cz_M_reserve 108 = .ok (.getfield 7, 3) := by decide +kernel
theorem dz_M_reserve_111 : decode cz_M_reserve 111 = .ok (.iload 5, 2) := by decide +kernel
theorem dz_M_reserve_113 : decode cz_M_reserve 113 = .ok (.iaload, 1) := by decide +kernel
theorem dz_M_reserve_114 : decode cz_M_reserve 114 = .ok (.aload_n 0, 1) := by decide +kernel
theorem dz_M_reserve_115 : decode cz_M_reserve 115 = .ok (.getfield 7, 3) := by decide +kernel
theorem dz_M_reserve_118 : decode cz_M_reserve 118 = .ok (.iload 4, 2) := by decide +kernel
theorem dz_M_reserve_120 : decode cz_M_reserve 120 = .ok (.iaload, 1) := by decide +kernel
theorem dz_M_reserve_121 : decode cz_M_reserve 121 = .ok (.if_icmp .ge 8, 3) := by decide +kernel
theorem dz_M_reserve_124 : decode cz_M_reserve 124 = .ok (.iload 5, 2) := by decide +kernel
theorem dz_M_reserve_126 : decode cz_M_reserve 126 = .ok (.goto 5, 3) := by decide +kernel
theorem dz_M_reserve_129 : decode cz_M_reserve 129 = .ok (.iload 4, 2) := by decide +kernel
theorem dz_M_reserve_131 : decode cz_M_reserve 131 = .ok (.istore 4, 2) := by decide +kernel
theorem dz_M_reserve_133 : decode cz_M_reserve 133 = .ok (.iinc 5 1, 3) := by decide +kernel
theorem dz_M_reserve_136 : decode cz_M_reserve 136 = .ok (.goto (-98), 3) := by decide +kernel
theorem dz_M_reserve_139 : decode cz_M_reserve 139 = .ok (.iload 4, 2) := by decide +kernel
theorem dz_M_reserve_141 : decode cz_M_reserve 141 = .ok (.ifCond .le 11, 3) := by decide +kernel
theorem dz_M_reserve_144 : decode cz_M_reserve 144 = .ok (.aload_n 0, 1) := by decide +kernel
theorem dz_M_reserve_145 : decode cz_M_reserve 145 = .ok (.getfield 36, 3) := by decide +kernel
theorem dz_M_reserve_148 : decode cz_M_reserve 148 = .ok (.iload 4, 2) := by decide +kernel
theorem dz_M_reserve_150 : decode cz_M_reserve 150 = .ok (.lload_n 2, 1) := by decide +kernel
theorem dz_M_reserve_151 : decode cz_M_reserve 151 = .ok (.lastore, 1) := by decide +kernel
theorem dz_M_reserve_152 : decode cz_M_reserve 152 = .ok (.iload 4, 2) := by decide +kernel
theorem dz_M_reserve_154 : decode cz_M_reserve 154 = .ok (.ireturn, 1) := by decide +kernel
theorem dz_M_put_0 : decode cz_M_put 0 = .ok (.aload_n 0, 1) := by decide +kernel
theorem dz_M_put_1 : decode cz_M_put 1 = .ok (.iload_n 1, 1) := by decide +kernel
theorem dz_M_put_2 : decode cz_M_put 2 = .ok (.invokevirtual 76, 3) := by decide +kernel
theorem dz_M_put_5 : decode cz_M_put 5 = .ok (.ifCond .ne 6, 3) := by decide +kernel
theorem dz_M_put_8 : decode cz_M_put 8 = .ok (.bipush (-11), 2) := by decide +kernel
theorem dz_M_put_10 : decode cz_M_put 10 = .ok (.ireturn, 1) := by decide +kernel
theorem dz_M_put_11 : decode cz_M_put 11 = .ok (.iload_n 2, 1) := by decide +kernel
theorem dz_M_put_12 : decode cz_M_put 12 = .ok (.i2l, 1) := by decide +kernel
theorem dz_M_put_13 : decode cz_M_put 13 = .ok (.lconst 1, 1) := by decide +kernel
theorem dz_M_put_14 : decode cz_M_put 14 = .ok (.ldc2_w 80, 3) := by decide +kernel
theorem dz_M_put_17 : decode cz_M_put 17 = .ok (.invokestatic 49, 3) := by decide +kernel
theorem dz_M_put_20 : decode cz_M_put 20 = .ok (.ifCond .eq 11, 3) := by decide +kernel
theorem dz_M_put_23 : decode cz_M_put 23 = .ok (.aload_n 0, 1) := by decide +kernel
theorem dz_M_put_24 : decode cz_M_put 24 = .ok (.lload_n 3, 1) := by decide +kernel
theorem dz_M_put_25 : decode cz_M_put 25 = .ok (.invokevirtual 82, 3) := by decide +kernel
theorem dz_M_put_28 : decode cz_M_put 28 = .ok (.ifCond .eq 6, 3) := by decide +kernel
theorem dz_M_put_31 : decode cz_M_put 31 = .ok (.bipush (-12), 2) := by decide +kernel
theorem dz_M_put_33 : decode cz_M_put 33 = .ok (.ireturn, 1) := by decide +kernel
theorem dz_M_put_34 : decode cz_M_put 34 = .ok (.aload_n 0, 1) := by decide +kernel
theorem dz_M_put_35 : decode cz_M_put 35 = .ok (.lload_n 3, 1) := by decide +kernel
theorem dz_M_put_36 : decode cz_M_put 36 = .ok (.invokevirtual 86, 3) := by decide +kernel
theorem dz_M_put_39 : decode cz_M_put 39 = .ok (.iconst 0, 1) := by decide +kernel
theorem dz_M_put_40 : decode cz_M_put 40 = .ok (.istore 5, 2) := by decide +kernel
theorem dz_M_put_42 : decode cz_M_put 42 = .ok (.iconst 1, 1) := by decide +kernel
theorem dz_M_put_43 : decode cz_M_put 43 = .ok (.istore 6, 2) := by decide +kernel
theorem dz_M_put_45 : decode cz_M_put 45 = .ok (.iload 6, 2) := by decide +kernel
theorem dz_M_put_47 : decode cz_M_put 47 = .ok (.aload_n 0, 1) := by decide +kernel
theorem dz_M_put_48 : decode cz_M_put 48 = .ok (.getfield 45, 3) := by decide +kernel
theorem dz_M_put_51 : decode cz_M_put 51 = .ok (.if_icmp .gt 32, 3) := by decide +kernel
theorem dz_M_put_54 : decode cz_M_put 54 = .ok (.iload 5, 2) := by decide +kernel
theorem dz_M_put_56 : decode cz_M_put 56 = .ok (.ifCond .ne 14, 3) := by decide +kernel
theorem dz_M_put_59 : decode cz_M_put 59 = .ok (.aload_n 0, 1) := by decide +kernel
theorem dz_M_put_60 : decode cz_M_put 60 = .ok (.getfield 24, 3) := by decide +kernel
theorem dz_M_put_63 : decode cz_M_put 63 = .ok (.iload 6, 2) := by decide +kernel
theorem dz_M_put_65 : decode cz_M_put 65 = .ok (.iaload, 1) := by decide +kernel
theorem dz_M_put_66 : decode cz_M_put 66 = .ok (.iload_n 2, 1) := by decide +kernel
theorem dz_M_put_67 : decode cz_M_put 67 = .ok (.if_icmp .ne 7, 3) := by decide +kernel
theorem dz_M_put_70 : decode cz_M_put 70 = .ok (.iconst 1, 1) := by decide +kernel
theorem dz_M_put_71 : decode cz_M_put 71 = .ok (.goto 4, 3) := by decide +kernel
theorem dz_M_put_74 : decode cz_M_put 74 = .ok (.iconst 0, 1) := by decide +kernel
theorem dz_M_put_75 : decode cz_M_put 75 = .ok (.istore 5, 2) := by decide +kernel
theorem dz_M_put_77 : decode cz_M_put 77 = .ok (.iinc 6 1, 3) := by decide +kernel
theorem dz_M_put_80 : decode cz_M_put 80 = .ok (.goto (-35), 3) := by decide +kernel
theorem dz_M_put_83 : decode cz_M_put 83 = .ok (.aload_n 0, 1) := by decide +kernel
theorem dz_M_put_84 : decode cz_M_put 84 = .ok (.getfield 13, 3) := by decide +kernel
theorem dz_M_put_87 : decode cz_M_put 87 = .ok (.iload_n 1, 1) := by decide +kernel
theorem dz_M_put_88 : decode cz_M_put 88 = .ok (.iaload, 1) := by decide +kernel
theorem dz_M_put_89 : decode cz_M_put 89 = .ok (.iconst 1, 1) := by decide +kernel
theorem dz_M_put_90 : decode cz_M_put 90 = .ok (.if_icmp .ne 17, 3) := by decide +kernel
theorem dz_M_put_93 : decode cz_M_put 93 = .ok (.aload_n 0, 1) := by decide +kernel
theorem dz_M_put_94 : decode cz_M_put 94 = .ok (.getfield 24, 3) := by decide +kernel
theorem dz_M_put_97 : decode cz_M_put 97 = .ok (.iload_n 1, 1) := by decide +kernel
theorem dz_M_put_98 : decode cz_M_put 98 = .ok (.iaload, 1) := by decide +kernel
theorem dz_M_put_99 : decode cz_M_put 99 = .ok (.ifCond .gt 8, 3) := by decide +kernel
theorem dz_M_put_102 : decode cz_M_put 102 = .ok (.iload 5, 2) := by decide +kernel
theorem dz_M_put_104 : decode cz_M_put 104 = .ok (.ifCond .eq 5, 3) := by decide +kernel
theorem dz_M_put_107 : decode cz_M_put 107 = .ok (.iconst 0, 1) := by decide +kernel
theorem dz_M_put_108 : decode cz_M_put 108 = .ok (.ireturn, 1) := by decide +kernel
theorem dz_M_put_109 : decode cz_M_put 109 = .ok (.aload_n 0, 1) := by decide +kernel
theorem dz_M_put_110 : decode cz_M_put 110 = .ok (.getfield 24, 3) := by decide +kernel
theorem dz_M_put_113 : decode cz_M_put 113 = .ok (.iload_n 1, 1) := by decide +kernel
theorem dz_M_put_114 : decode cz_M_put 114 = .ok (.iload_n 2, 1) := by decide +kernel
theorem dz_M_put_115 : decode cz_M_put 115 = .ok (.iastore, 1) := by decide +kernel
theorem dz_M_put_116 : decode cz_M_put 116 = .ok (.aload_n 0, 1) := by decide +kernel
theorem dz_M_put_117 : decode cz_M_put 117 = .ok (.getfield 36, 3) := by decide +kernel
theorem dz_M_put_120 : decode cz_M_put 120 = .ok (.iload_n 1, 1) := by decide +kernel
theorem dz_M_put_121 : decode cz_M_put 121 = .ok (.lconst 0, 1) := by decide +kernel
theorem dz_M_put_122 : decode cz_M_put 122 = .ok (.lastore, 1) := by decide +kernel
theorem dz_M_put_123 : decode cz_M_put 123 = .ok (.iconst 1, 1) := by decide +kernel
theorem dz_M_put_124 : decode cz_M_put 124 = .ok (.ireturn, 1) := by decide +kernel
theorem dz_M_isCode_0 : decode cz_M_isCode 0 = .ok (.iconst 1, 1) := by decide +kernel
theorem dz_M_isCode_1 : decode cz_M_isCode 1 = .ok (.istore_n 2, 1) := by decide +kernel
theorem dz_M_isCode_2 : decode cz_M_isCode 2 = .ok (.iload_n 2, 1) := by decide +kernel
theorem dz_M_isCode_3 : decode cz_M_isCode 3 = .ok (.aload_n 0, 1) := by decide +kernel
theorem dz_M_isCode_4 : decode cz_M_isCode 4 = .ok (.getfield 45, 3) := by decide +kernel
theorem dz_M_isCode_7 : decode cz_M_isCode 7 = .ok (.if_icmp .gt 21, 3) := by decide +kernel
theorem dz_M_isCode_10 : decode cz_M_isCode 10 = .ok (.aload_n 0, 1) := by decide +kernel
theorem dz_M_isCode_11 : decode cz_M_isCode 11 = .ok (.getfield 27, 3) := by decide +kernel
theorem dz_M_isCode_14 : decode cz_M_isCode 14 = .ok (.iload_n 2, 1) := by decide +kernel
theorem dz_M_isCode_15 : decode cz_M_isCode 15 = .ok (.iaload, 1) := by decide +kernel
theorem dz_M_isCode_16 : decode cz_M_isCode 16 = .ok (.iload_n 1, 1) := by decide +kernel
theorem dz_M_isCode_17 : decode cz_M_isCode 17 = .ok (.if_icmp .ne 5, 3) := by decide +kernel
theorem dz_M_isCode_20 : decode cz_M_isCode 20 = .ok (.iconst 1, 1) := by decide +kernel
theorem dz_M_isCode_21 : decode cz_M_isCode 21 = .ok (.ireturn, 1) := by decide +kernel
theorem dz_M_isCode_22 : decode cz_M_isCode 22 = .ok (.iinc 2 1, 3) := by decide +kernel
theorem dz_M_isCode_25 : decode cz_M_isCode 25 = .ok (.goto (-23), 3) := by decide +kernel
theorem dz_M_isCode_28 : decode cz_M_isCode 28 = .ok (.iconst 0, 1) := by decide +kernel
theorem dz_M_isCode_29 : decode cz_M_isCode 29 = .ok (.ireturn, 1) := by decide +kernel
theorem dz_M_close_0 : decode cz_M_close 0 = .ok (.aload_n 0, 1) := by decide +kernel
theorem dz_M_close_1 : decode cz_M_close 1 = .ok (.iload_n 1, 1) := by decide +kernel
theorem dz_M_close_2 : decode cz_M_close 2 = .ok (.invokevirtual 76, 3) := by decide +kernel
theorem dz_M_close_5 : decode cz_M_close 5 = .ok (.ifCond .ne 6, 3) := by decide +kernel
theorem dz_M_close_8 : decode cz_M_close 8 = .ok (.bipush (-11), 2) := by decide +kernel
theorem dz_M_close_10 : decode cz_M_close 10 = .ok (.ireturn, 1) := by decide +kernel
theorem dz_M_close_11 : decode cz_M_close 11 = .ok (.aload_n 0, 1) := by decide +kernel
theorem dz_M_close_12 : decode cz_M_close 12 = .ok (.lload_n 2, 1) := by decide +kernel
theorem dz_M_close_13 : decode cz_M_close 13 = .ok (.invokevirtual 82, 3) := by decide +kernel
theorem dz_M_close_16 : decode cz_M_close 16 = .ok (.ifCond .eq 6, 3) := by decide +kernel
theorem dz_M_close_19 : decode cz_M_close 19 = .ok (.bipush (-12), 2) := by decide +kernel
theorem dz_M_close_21 : decode cz_M_close 21 = .ok (.ireturn, 1) := by decide +kernel
theorem dz_M_close_22 : decode cz_M_close 22 = .ok (.aload_n 0, 1) := by decide +kernel
theorem dz_M_close_23 : decode cz_M_close 23 = .ok (.lload_n 2, 1) := by decide +kernel
theorem dz_M_close_24 : decode cz_M_close 24 = .ok (.invokevirtual 86, 3) := by decide +kernel
theorem dz_M_close_27 : decode cz_M_close 27 = .ok (.aload_n 0, 1) := by decide +kernel
theorem dz_M_close_28 : decode cz_M_close 28 = .ok (.getfield 13, 3) := by decide +kernel
theorem dz_M_close_31 : decode cz_M_close 31 = .ok (.iload_n 1, 1) := by decide +kernel
theorem dz_M_close_32 : decode cz_M_close 32 = .ok (.iaload, 1) := by decide +kernel
theorem dz_M_close_33 : decode cz_M_close 33 = .ok (.iconst 1, 1) := by decide +kernel
theorem dz_M_close_34 : decode cz_M_close 34 = .ok (.if_icmp .eq 6, 3) := by decide +kernel
theorem dz_M_close_37 : decode cz_M_close 37 = .ok (.bipush (-13), 2) := by decide +kernel
theorem dz_M_close_39 : decode cz_M_close 39 = .ok (.ireturn, 1) := by decide +kernel
theorem dz_M_close_40 : decode cz_M_close 40 = .ok (.aload_n 0, 1) := by decide +kernel
theorem dz_M_close_41 : decode cz_M_close 41 = .ok (.getfield 24, 3) := by decide +kernel
theorem dz_M_close_44 : decode cz_M_close 44 = .ok (.iload_n 1, 1) := by decide +kernel
theorem dz_M_close_45 : decode cz_M_close 45 = .ok (.iaload, 1) := by decide +kernel
theorem dz_M_close_46 : decode cz_M_close 46 = .ok (.ifCond .le 16, 3) := by decide +kernel
theorem dz_M_close_49 : decode cz_M_close 49 = .ok (.aload_n 0, 1) := by decide +kernel
theorem dz_M_close_50 : decode cz_M_close 50 = .ok (.getfield 27, 3) := by decide +kernel
theorem dz_M_close_53 : decode cz_M_close 53 = .ok (.iload_n 1, 1) := by decide +kernel
theorem dz_M_close_54 : decode cz_M_close 54 = .ok (.iaload, 1) := by decide +kernel
theorem dz_M_close_55 : decode cz_M_close 55 = .ok (.ifCond .ge 7, 3) := by decide +kernel
theorem dz_M_close_58 : decode cz_M_close 58 = .ok (.iconst 1, 1) := by decide +kernel
theorem dz_M_close_59 : decode cz_M_close 59 = .ok (.goto 4, 3) := by decide +kernel
theorem dz_M_close_62 : decode cz_M_close 62 = .ok (.iconst 0, 1) := by decide +kernel
theorem dz_M_close_63 : decode cz_M_close 63 = .ok (.istore 4, 2) := by decide +kernel
theorem dz_M_close_65 : decode cz_M_close 65 = .ok (.iconst 0, 1) := by decide +kernel
theorem dz_M_close_66 : decode cz_M_close 66 = .ok (.istore 5, 2) := by decide +kernel
theorem dz_M_close_68 : decode cz_M_close 68 = .ok (.iload 4, 2) := by decide +kernel
theorem dz_M_close_70 : decode cz_M_close 70 = .ok (.ifCond .eq 32, 3) := by decide +kernel
theorem dz_M_close_73 : decode cz_M_close 73 = .ok (.iload 5, 2) := by decide +kernel
theorem dz_M_close_75 : decode cz_M_close 75 = .ok (.aload_n 0, 1) := by decide +kernel
theorem dz_M_close_76 : decode cz_M_close 76 = .ok (.getfield 57, 3) := by decide +kernel
theorem dz_M_close_79 : decode cz_M_close 79 = .ok (.if_icmp .ge 23, 3) := by decide +kernel
theorem dz_M_close_82 : decode cz_M_close 82 = .ok (.aload_n 0, 1) := by decide +kernel
theorem dz_M_close_83 : decode cz_M_close 83 = .ok (.aload_n 0, 1) := by decide +kernel
theorem dz_M_close_84 : decode cz_M_close 84 = .ok (.getfield 39, 3) := by decide +kernel
theorem dz_M_close_87 : decode cz_M_close 87 = .ok (.iload 5, 2) := by decide +kernel
theorem dz_M_close_89 : decode cz_M_close 89 = .ok (.iaload, 1) := by decide +kernel
theorem dz_M_close_90 : decode cz_M_close 90 = .ok (.invokevirtual 90, 3) := by decide +kernel
theorem dz_M_close_93 : decode cz_M_close 93 = .ok (.ifCond .eq 9, 3) := by decide +kernel
theorem dz_M_close_96 : decode cz_M_close 96 = .ok (.iinc 5 1, 3) := by decide +kernel
theorem dz_M_close_99 : decode cz_M_close 99 = .ok (.goto (-31), 3) := by decide +kernel
theorem dz_M_close_102 : decode cz_M_close 102 = .ok (.iload 4, 2) := by decide +kernel
theorem dz_M_close_104 : decode cz_M_close 104 = .ok (.ifCond .eq 15, 3) := by decide +kernel
theorem dz_M_close_107 : decode cz_M_close 107 = .ok (.iload 5, 2) := by decide +kernel
theorem dz_M_close_109 : decode cz_M_close 109 = .ok (.aload_n 0, 1) := by decide +kernel
theorem dz_M_close_110 : decode cz_M_close 110 = .ok (.getfield 57, 3) := by decide +kernel
theorem dz_M_close_113 : decode cz_M_close 113 = .ok (.if_icmp .ne 6, 3) := by decide +kernel
theorem dz_M_close_116 : decode cz_M_close 116 = .ok (.bipush (-14), 2) := by decide +kernel
theorem dz_M_close_118 : decode cz_M_close 118 = .ok (.ireturn, 1) := by decide +kernel
theorem dz_M_close_119 : decode cz_M_close 119 = .ok (.aload_n 0, 1) := by decide +kernel
theorem dz_M_close_120 : decode cz_M_close 120 = .ok (.getfield 13, 3) := by decide +kernel
theorem dz_M_close_123 : decode cz_M_close 123 = .ok (.iload_n 1, 1) := by decide +kernel
theorem dz_M_close_124 : decode cz_M_close 124 = .ok (.iconst 0, 1) := by decide +kernel
theorem dz_M_close_125 : decode cz_M_close 125 = .ok (.iastore, 1) := by decide +kernel
theorem dz_M_close_126 : decode cz_M_close 126 = .ok (.iload 4, 2) := by decide +kernel
theorem dz_M_close_128 : decode cz_M_close 128 = .ok (.ifCond .ne 5, 3) := by decide +kernel
theorem dz_M_close_131 : decode cz_M_close 131 = .ok (.iconst (-1), 1) := by decide +kernel
theorem dz_M_close_132 : decode cz_M_close 132 = .ok (.ireturn, 1) := by decide +kernel
theorem dz_M_close_133 : decode cz_M_close 133 = .ok (.aload_n 0, 1) := by decide +kernel
theorem dz_M_close_134 : decode cz_M_close 134 = .ok (.getfield 27, 3) := by decide +kernel
theorem dz_M_close_137 : decode cz_M_close 137 = .ok (.iload_n 1, 1) := by decide +kernel
theorem dz_M_close_138 : decode cz_M_close 138 = .ok (.aload_n 0, 1) := by decide +kernel
theorem dz_M_close_139 : decode cz_M_close 139 = .ok (.getfield 39, 3) := by decide +kernel
theorem dz_M_close_142 : decode cz_M_close 142 = .ok (.iload 5, 2) := by decide +kernel
theorem dz_M_close_144 : decode cz_M_close 144 = .ok (.iaload, 1) := by decide +kernel
theorem dz_M_close_145 : decode cz_M_close 145 = .ok (.iastore, 1) := by decide +kernel
theorem dz_M_close_146 : decode cz_M_close 146 = .ok (.aload_n 0, 1) := by decide +kernel
theorem dz_M_close_147 : decode cz_M_close 147 = .ok (.getfield 30, 3) := by decide +kernel
theorem dz_M_close_150 : decode cz_M_close 150 = .ok (.iload_n 1, 1) := by decide +kernel
theorem dz_M_close_151 : decode cz_M_close 151 = .ok (.lload_n 2, 1) := by decide +kernel
theorem dz_M_close_152 : decode cz_M_close 152 = .ok (.lastore, 1) := by decide +kernel
theorem dz_M_close_153 : decode cz_M_close 153 = .ok (.aload_n 0, 1) := by decide +kernel
theorem dz_M_close_154 : decode cz_M_close 154 = .ok (.getfield 33, 3) := by decide +kernel
theorem dz_M_close_157 : decode cz_M_close 157 = .ok (.iload_n 1, 1) := by decide +kernel
theorem dz_M_close_158 : decode cz_M_close 158 = .ok (.iconst 0, 1) := by decide +kernel
theorem dz_M_close_159 : decode cz_M_close 159 = .ok (.bastore, 1) := by decide +kernel
theorem dz_M_close_160 : decode cz_M_close 160 = .ok (.aload_n 0, 1) := by decide +kernel
theorem dz_M_close_161 : decode cz_M_close 161 = .ok (.aload_n 0, 1) := by decide +kernel
theorem dz_M_close_162 : decode cz_M_close 162 = .ok (.getfield 57, 3) := by decide +kernel
theorem dz_M_close_165 : decode cz_M_close 165 = .ok (.iload 5, 2) := by decide +kernel
theorem dz_M_close_167 : decode cz_M_close 167 = .ok (.isub, 1) := by decide +kernel
theorem dz_M_close_168 : decode cz_M_close 168 = .ok (.iconst 1, 1) := by decide +kernel
theorem dz_M_close_169 : decode cz_M_close 169 = .ok (.isub, 1) := by decide +kernel
theorem dz_M_close_170 : decode cz_M_close 170 = .ok (.putfield 57, 3) := by decide +kernel
theorem dz_M_close_173 : decode cz_M_close 173 = .ok (.iconst 0, 1) := by decide +kernel
theorem dz_M_close_174 : decode cz_M_close 174 = .ok (.istore 6, 2) := by decide +kernel
theorem dz_M_close_176 : decode cz_M_close 176 = .ok (.iload 6, 2) := by decide +kernel
theorem dz_M_close_178 : decode cz_M_close 178 = .ok (.aload_n 0, 1) := by decide +kernel
theorem dz_M_close_179 : decode cz_M_close 179 = .ok (.getfield 57, 3) := by decide +kernel
theorem dz_M_close_182 : decode cz_M_close 182 = .ok (.if_icmp .ge 28, 3) := by decide +kernel
theorem dz_M_close_185 : decode cz_M_close 185 = .ok (.aload_n 0, 1) := by decide +kernel
theorem dz_M_close_186 : decode cz_M_close 186 = .ok (.getfield 39, 3) := by decide +kernel
theorem dz_M_close_189 : decode cz_M_close 189 = .ok (.iload 6, 2) := by decide +kernel
theorem dz_M_close_191 : decode cz_M_close 191 = .ok (.aload_n 0, 1) := by decide +kernel
theorem dz_M_close_192 : decode cz_M_close 192 = .ok (.getfield 39, 3) := by decide +kernel
theorem dz_M_close_195 : decode cz_M_close 195 = .ok (.iload 6, 2) := by decide +kernel
theorem dz_M_close_197 : decode cz_M_close 197 = .ok (.iload 5, 2) := by decide +kernel
theorem dz_M_close_199 : decode cz_M_close 199 = .ok (.iadd, 1) := by decide +kernel
theorem dz_M_close_200 : decode cz_M_close 200 = .ok (.iconst 1, 1) := by decide +kernel
theorem dz_M_close_201 : decode cz_M_close 201 = .ok (.iadd, 1) := by decide +kernel
theorem dz_M_close_202 : decode cz_M_close 202 = .ok (.iaload, 1) := by decide +kernel
theorem dz_M_close_203 : decode cz_M_close 203 = .ok (.iastore, 1) := by decide +kernel
theorem dz_M_close_204 : decode cz_M_close 204 = .ok (.iinc 6 1, 3) := by decide +kernel
theorem dz_M_close_207 : decode cz_M_close 207 = .ok (.goto (-31), 3) := by decide +kernel
theorem dz_M_close_210 : decode cz_M_close 210 = .ok (.aload_n 0, 1) := by decide +kernel
theorem dz_M_close_211 : decode cz_M_close 211 = .ok (.getfield 27, 3) := by decide +kernel
theorem dz_M_close_214 : decode cz_M_close 214 = .ok (.iload_n 1, 1) := by decide +kernel
theorem dz_M_close_215 : decode cz_M_close 215 = .ok (.iaload, 1) := by decide +kernel
theorem dz_M_close_216 : decode cz_M_close 216 = .ok (.ireturn, 1) := by decide +kernel
theorem dz_M_open_0 : decode cz_M_open 0 = .ok (.aload_n 0, 1) := by decide +kernel
theorem dz_M_open_1 : decode cz_M_open 1 = .ok (.getfield 13, 3) := by decide +kernel
theorem dz_M_open_4 : decode cz_M_open 4 = .ok (.iload_n 1, 1) := by decide +kernel
theorem dz_M_open_5 : decode cz_M_open 5 = .ok (.iload_n 2, 1) := by decide +kernel
theorem dz_M_open_6 : decode cz_M_open 6 = .ok (.iastore, 1) := by decide +kernel
theorem dz_M_open_7 : decode cz_M_open 7 = .ok (.aload_n 0, 1) := by decide +kernel
theorem dz_M_open_8 : decode cz_M_open 8 = .ok (.getfield 16, 3) := by decide +kernel
theorem dz_M_open_11 : decode cz_M_open 11 = .ok (.iload_n 1, 1) := by decide +kernel
theorem dz_M_open_12 : decode cz_M_open 12 = .ok (.aload_n 0, 1) := by decide +kernel
theorem dz_M_open_13 : decode cz_M_open 13 = .ok (.getfield 60, 3) := by decide +kernel
theorem dz_M_open_16 : decode cz_M_open 16 = .ok (.lastore, 1) := by decide +kernel
theorem dz_M_open_17 : decode cz_M_open 17 = .ok (.aload_n 0, 1) := by decide +kernel
theorem dz_M_open_18 : decode cz_M_open 18 = .ok (.getfield 20, 3) := by decide +kernel
theorem dz_M_open_21 : decode cz_M_open 21 = .ok (.iload_n 1, 1) := by decide +kernel
theorem dz_M_open_22 : decode cz_M_open 22 = .ok (.iconst 0, 1) := by decide +kernel
theorem dz_M_open_23 : decode cz_M_open 23 = .ok (.bastore, 1) := by decide +kernel
theorem dz_M_open_24 : decode cz_M_open 24 = .ok (.return_, 1) := by decide +kernel
theorem dz_M_out_0 : decode cz_M_out 0 = .ok (.aload_n 0, 1) := by decide +kernel
theorem dz_M_out_1 : decode cz_M_out 1 = .ok (.getfield 24, 3) := by decide +kernel
theorem dz_M_out_4 : decode cz_M_out 4 = .ok (.iload_n 1, 1) := by decide +kernel
theorem dz_M_out_5 : decode cz_M_out 5 = .ok (.iaload, 1) := by decide +kernel
theorem dz_M_out_6 : decode cz_M_out 6 = .ok (.istore_n 2, 1) := by decide +kernel
theorem dz_M_out_7 : decode cz_M_out 7 = .ok (.aload_n 0, 1) := by decide +kernel
theorem dz_M_out_8 : decode cz_M_out 8 = .ok (.getfield 24, 3) := by decide +kernel
theorem dz_M_out_11 : decode cz_M_out 11 = .ok (.iload_n 1, 1) := by decide +kernel
theorem dz_M_out_12 : decode cz_M_out 12 = .ok (.iconst 0, 1) := by decide +kernel
theorem dz_M_out_13 : decode cz_M_out 13 = .ok (.iastore, 1) := by decide +kernel
theorem dz_M_out_14 : decode cz_M_out 14 = .ok (.aload_n 0, 1) := by decide +kernel
theorem dz_M_out_15 : decode cz_M_out 15 = .ok (.getfield 27, 3) := by decide +kernel
theorem dz_M_out_18 : decode cz_M_out 18 = .ok (.iload_n 1, 1) := by decide +kernel
theorem dz_M_out_19 : decode cz_M_out 19 = .ok (.iconst (-1), 1) := by decide +kernel
theorem dz_M_out_20 : decode cz_M_out 20 = .ok (.iastore, 1) := by decide +kernel
theorem dz_M_out_21 : decode cz_M_out 21 = .ok (.aload_n 0, 1) := by decide +kernel
theorem dz_M_out_22 : decode cz_M_out 22 = .ok (.getfield 33, 3) := by decide +kernel
theorem dz_M_out_25 : decode cz_M_out 25 = .ok (.iload_n 1, 1) := by decide +kernel
theorem dz_M_out_26 : decode cz_M_out 26 = .ok (.iconst 0, 1) := by decide +kernel
theorem dz_M_out_27 : decode cz_M_out 27 = .ok (.bastore, 1) := by decide +kernel
theorem dz_M_out_28 : decode cz_M_out 28 = .ok (.iload_n 2, 1) := by decide +kernel
theorem dz_M_out_29 : decode cz_M_out 29 = .ok (.ireturn, 1) := by decide +kernel
theorem dz_M_type_0 : decode cz_M_type 0 = .ok (.iload_n 1, 1) := by decide +kernel
theorem dz_M_type_1 : decode cz_M_type 1 = .ok (.i2l, 1) := by decide +kernel
theorem dz_M_type_2 : decode cz_M_type 2 = .ok (.lconst 0, 1) := by decide +kernel
theorem dz_M_type_3 : decode cz_M_type 3 = .ok (.ldc2_w 55, 3) := by decide +kernel
theorem dz_M_type_6 : decode cz_M_type 6 = .ok (.invokestatic 49, 3) := by decide +kernel
theorem dz_M_type_9 : decode cz_M_type 9 = .ok (.ifCond .eq 11, 3) := by decide +kernel
theorem dz_M_type_12 : decode cz_M_type 12 = .ok (.aload_n 0, 1) := by decide +kernel
theorem dz_M_type_13 : decode cz_M_type 13 = .ok (.lload_n 2, 1) := by decide +kernel
theorem dz_M_type_14 : decode cz_M_type 14 = .ok (.invokevirtual 82, 3) := by decide +kernel
theorem dz_M_type_17 : decode cz_M_type 17 = .ok (.ifCond .eq 6, 3) := by decide +kernel
theorem dz_M_type_20 : decode cz_M_type 20 = .ok (.bipush (-12), 2) := by decide +kernel
theorem dz_M_type_22 : decode cz_M_type 22 = .ok (.ireturn, 1) := by decide +kernel
theorem dz_M_type_23 : decode cz_M_type 23 = .ok (.aload_n 0, 1) := by decide +kernel
theorem dz_M_type_24 : decode cz_M_type 24 = .ok (.lload_n 2, 1) := by decide +kernel
theorem dz_M_type_25 : decode cz_M_type 25 = .ok (.invokevirtual 86, 3) := by decide +kernel
theorem dz_M_type_28 : decode cz_M_type 28 = .ok (.lload_n 2, 1) := by decide +kernel
theorem dz_M_type_29 : decode cz_M_type 29 = .ok (.aload_n 0, 1) := by decide +kernel
theorem dz_M_type_30 : decode cz_M_type 30 = .ok (.getfield 93, 3) := by decide +kernel
theorem dz_M_type_33 : decode cz_M_type 33 = .ok (.lcmp, 1) := by decide +kernel
theorem dz_M_type_34 : decode cz_M_type 34 = .ok (.ifCond .ge 5, 3) := by decide +kernel
theorem dz_M_type_37 : decode cz_M_type 37 = .ok (.iconst (-1), 1) := by decide +kernel
theorem dz_M_type_38 : decode cz_M_type 38 = .ok (.ireturn, 1) := by decide +kernel
theorem dz_M_type_39 : decode cz_M_type 39 = .ok (.iconst 1, 1) := by decide +kernel
theorem dz_M_type_40 : decode cz_M_type 40 = .ok (.istore 4, 2) := by decide +kernel
theorem dz_M_type_42 : decode cz_M_type 42 = .ok (.iload 4, 2) := by decide +kernel
theorem dz_M_type_44 : decode cz_M_type 44 = .ok (.aload_n 0, 1) := by decide +kernel
theorem dz_M_type_45 : decode cz_M_type 45 = .ok (.getfield 45, 3) := by decide +kernel
theorem dz_M_type_48 : decode cz_M_type 48 = .ok (.if_icmp .gt 52, 3) := by decide +kernel
theorem dz_M_type_51 : decode cz_M_type 51 = .ok (.aload_n 0, 1) := by decide +kernel
theorem dz_M_type_52 : decode cz_M_type 52 = .ok (.getfield 27, 3) := by decide +kernel
theorem dz_M_type_55 : decode cz_M_type 55 = .ok (.iload 4, 2) := by decide +kernel
theorem dz_M_type_57 : decode cz_M_type 57 = .ok (.iaload, 1) := by decide +kernel
theorem dz_M_type_58 : decode cz_M_type 58 = .ok (.iload_n 1, 1) := by decide +kernel
theorem dz_M_type_59 : decode cz_M_type 59 = .ok (.if_icmp .ne 35, 3) := by decide +kernel
theorem dz_M_type_62 : decode cz_M_type 62 = .ok (.aload_n 0, 1) := by decide +kernel
theorem dz_M_type_63 : decode cz_M_type 63 = .ok (.getfield 13, 3) := by decide +kernel
theorem dz_M_type_66 : decode cz_M_type 66 = .ok (.iload 4, 2) := by decide +kernel
theorem dz_M_type_68 : decode cz_M_type 68 = .ok (.iaload, 1) := by decide +kernel
theorem dz_M_type_69 : decode cz_M_type 69 = .ok (.ifCond .ne 25, 3) := by decide +kernel
theorem dz_M_type_72 : decode cz_M_type 72 = .ok (.aload_n 0, 1) := by decide +kernel
theorem dz_M_type_73 : decode cz_M_type 73 = .ok (.iload 4, 2) := by decide +kernel
theorem dz_M_type_75 : decode cz_M_type 75 = .ok (.invokevirtual 96, 3) := by decide +kernel
theorem dz_M_type_78 : decode cz_M_type 78 = .ok (.pop, 1) := by decide +kernel
theorem dz_M_type_79 : decode cz_M_type 79 = .ok (.aload_n 0, 1) := by decide +kernel
theorem dz_M_type_80 : decode cz_M_type 80 = .ok (.iload 4, 2) := by decide +kernel
theorem dz_M_type_82 : decode cz_M_type 82 = .ok (.iconst 1, 1) := by decide +kernel
theorem dz_M_type_83 : decode cz_M_type 83 = .ok (.invokevirtual 100, 3) := by decide +kernel
theorem dz_M_type_86 : decode cz_M_type 86 = .ok (.aload_n 0, 1) := by decide +kernel
theorem dz_M_type_87 : decode cz_M_type 87 = .ok (.iconst 0, 1) := by decide +kernel
theorem dz_M_type_88 : decode cz_M_type 88 = .ok (.putfield 104, 3) := by decide +kernel
theorem dz_M_type_91 : decode cz_M_type 91 = .ok (.iload 4, 2) := by decide +kernel
theorem dz_M_type_93 : decode cz_M_type 93 = .ok (.ireturn, 1) := by decide +kernel
theorem dz_M_type_94 : decode cz_M_type 94 = .ok (.iinc 4 1, 3) := by decide +kernel
theorem dz_M_type_97 : decode cz_M_type 97 = .ok (.goto (-55), 3) := by decide +kernel
theorem dz_M_type_100 : decode cz_M_type 100 = .ok (.aload_n 0, 1) := by decide +kernel
theorem dz_M_type_101 : decode cz_M_type 101 = .ok (.dup, 1) := by decide +kernel
theorem dz_M_type_102 : decode cz_M_type 102 = .ok (.getfield 104, 3) := by decide +kernel
theorem dz_M_type_105 : decode cz_M_type 105 = .ok (.iconst 1, 1) := by decide +kernel
theorem dz_M_type_106 : decode cz_M_type 106 = .ok (.iadd, 1) := by decide +kernel
theorem dz_M_type_107 : decode cz_M_type 107 = .ok (.putfield 104, 3) := by decide +kernel
theorem dz_M_type_110 : decode cz_M_type 110 = .ok (.aload_n 0, 1) := by decide +kernel
theorem dz_M_type_111 : decode cz_M_type 111 = .ok (.getfield 104, 3) := by decide +kernel
theorem dz_M_type_114 : decode cz_M_type 114 = .ok (.iconst 3, 1) := by decide +kernel
theorem dz_M_type_115 : decode cz_M_type 115 = .ok (.if_icmp .ne 17, 3) := by decide +kernel
theorem dz_M_type_118 : decode cz_M_type 118 = .ok (.aload_n 0, 1) := by decide +kernel
theorem dz_M_type_119 : decode cz_M_type 119 = .ok (.iconst 0, 1) := by decide +kernel
theorem dz_M_type_120 : decode cz_M_type 120 = .ok (.putfield 104, 3) := by decide +kernel
theorem dz_M_type_123 : decode cz_M_type 123 = .ok (.aload_n 0, 1) := by decide +kernel
theorem dz_M_type_124 : decode cz_M_type 124 = .ok (.lload_n 2, 1) := by decide +kernel
theorem dz_M_type_125 : decode cz_M_type 125 = .ok (.ldc2_w 107, 3) := by decide +kernel
theorem dz_M_type_128 : decode cz_M_type 128 = .ok (.ladd, 1) := by decide +kernel
theorem dz_M_type_129 : decode cz_M_type 129 = .ok (.putfield 93, 3) := by decide +kernel
theorem dz_M_type_132 : decode cz_M_type 132 = .ok (.iconst 0, 1) := by decide +kernel
theorem dz_M_type_133 : decode cz_M_type 133 = .ok (.ireturn, 1) := by decide +kernel
theorem dz_M_code_0 : decode cz_M_code 0 = .ok (.iload_n 1, 1) := by decide +kernel
theorem dz_M_code_1 : decode cz_M_code 1 = .ok (.i2l, 1) := by decide +kernel
theorem dz_M_code_2 : decode cz_M_code 2 = .ok (.lconst 1, 1) := by decide +kernel
theorem dz_M_code_3 : decode cz_M_code 3 = .ok (.ldc2_w 80, 3) := by decide +kernel
theorem dz_M_code_6 : decode cz_M_code 6 = .ok (.invokestatic 49, 3) := by decide +kernel
theorem dz_M_code_9 : decode cz_M_code 9 = .ok (.ifCond .ne 6, 3) := by decide +kernel
theorem dz_M_code_12 : decode cz_M_code 12 = .ok (.bipush (-12), 2) := by decide +kernel
theorem dz_M_code_14 : decode cz_M_code 14 = .ok (.ireturn, 1) := by decide +kernel
theorem dz_M_code_15 : decode cz_M_code 15 = .ok (.iconst 1, 1) := by decide +kernel
theorem dz_M_code_16 : decode cz_M_code 16 = .ok (.istore_n 2, 1) := by decide +kernel
theorem dz_M_code_17 : decode cz_M_code 17 = .ok (.iload_n 2, 1) := by decide +kernel
theorem dz_M_code_18 : decode cz_M_code 18 = .ok (.aload_n 0, 1) := by decide +kernel
theorem dz_M_code_19 : decode cz_M_code 19 = .ok (.getfield 45, 3) := by decide +kernel
theorem dz_M_code_22 : decode cz_M_code 22 = .ok (.if_icmp .gt 26, 3) := by decide +kernel
theorem dz_M_code_25 : decode cz_M_code 25 = .ok (.aload_n 0, 1) := by decide +kernel
theorem dz_M_code_26 : decode cz_M_code 26 = .ok (.getfield 24, 3) := by decide +kernel
theorem dz_M_code_29 : decode cz_M_code 29 = .ok (.iload_n 2, 1) := by decide +kernel
theorem dz_M_code_30 : decode cz_M_code 30 = .ok (.iaload, 1) := by decide +kernel
theorem dz_M_code_31 : decode cz_M_code 31 = .ok (.iload_n 1, 1) := by decide +kernel
theorem dz_M_code_32 : decode cz_M_code 32 = .ok (.if_icmp .ne 10, 3) := by decide +kernel
theorem dz_M_code_35 : decode cz_M_code 35 = .ok (.aload_n 0, 1) := by decide +kernel
theorem dz_M_code_36 : decode cz_M_code 36 = .ok (.getfield 27, 3) := by decide +kernel
theorem dz_M_code_39 : decode cz_M_code 39 = .ok (.iload_n 2, 1) := by decide +kernel
theorem dz_M_code_40 : decode cz_M_code 40 = .ok (.iaload, 1) := by decide +kernel
theorem dz_M_code_41 : decode cz_M_code 41 = .ok (.ireturn, 1) := by decide +kernel
theorem dz_M_code_42 : decode cz_M_code 42 = .ok (.iinc 2 1, 3) := by decide +kernel
theorem dz_M_code_45 : decode cz_M_code 45 = .ok (.goto (-28), 3) := by decide +kernel
theorem dz_M_code_48 : decode cz_M_code 48 = .ok (.iconst (-1), 1) := by decide +kernel
theorem dz_M_code_49 : decode cz_M_code 49 = .ok (.ireturn, 1) := by decide +kernel
theorem dz_M_door_0 : decode cz_M_door 0 = .ok (.aload_n 0, 1) := by decide +kernel
theorem dz_M_door_1 : decode cz_M_door 1 = .ok (.iload_n 1, 1) := by decide +kernel
theorem dz_M_door_2 : decode cz_M_door 2 = .ok (.invokevirtual 76, 3) := by decide +kernel
theorem dz_M_door_5 : decode cz_M_door 5 = .ok (.ifCond .ne 6, 3) := by decide +kernel
theorem dz_M_door_8 : decode cz_M_door 8 = .ok (.bipush (-11), 2) := by decide +kernel
theorem dz_M_door_10 : decode cz_M_door 10 = .ok (.ireturn, 1) := by decide +kernel
theorem dz_M_door_11 : decode cz_M_door 11 = .ok (.iload_n 2, 1) := by decide +kernel
theorem dz_M_door_12 : decode cz_M_door 12 = .ok (.i2l, 1) := by decide +kernel
theorem dz_M_door_13 : decode cz_M_door 13 = .ok (.lconst 0, 1) := by decide +kernel
theorem dz_M_door_14 : decode cz_M_door 14 = .ok (.ldc2_w 109, 3) := by decide +kernel
theorem dz_M_door_17 : decode cz_M_door 17 = .ok (.invokestatic 49, 3) := by decide +kernel
theorem dz_M_door_20 : decode cz_M_door 20 = .ok (.ifCond .eq 11, 3) := by decide +kernel
theorem dz_M_door_23 : decode cz_M_door 23 = .ok (.aload_n 0, 1) := by decide +kernel
theorem dz_M_door_24 : decode cz_M_door 24 = .ok (.lload_n 3, 1) := by decide +kernel
theorem dz_M_door_25 : decode cz_M_door 25 = .ok (.invokevirtual 82, 3) := by decide +kernel
theorem dz_M_door_28 : decode cz_M_door 28 = .ok (.ifCond .eq 6, 3) := by decide +kernel
theorem dz_M_door_31 : decode cz_M_door 31 = .ok (.bipush (-12), 2) := by decide +kernel
theorem dz_M_door_33 : decode cz_M_door 33 = .ok (.ireturn, 1) := by decide +kernel
theorem dz_M_door_34 : decode cz_M_door 34 = .ok (.aload_n 0, 1) := by decide +kernel
theorem dz_M_door_35 : decode cz_M_door 35 = .ok (.lload_n 3, 1) := by decide +kernel
theorem dz_M_door_36 : decode cz_M_door 36 = .ok (.invokevirtual 86, 3) := by decide +kernel
theorem dz_M_door_39 : decode cz_M_door 39 = .ok (.aload_n 0, 1) := by decide +kernel
theorem dz_M_door_40 : decode cz_M_door 40 = .ok (.getfield 13, 3) := by decide +kernel
theorem dz_M_door_43 : decode cz_M_door 43 = .ok (.iload_n 1, 1) := by decide +kernel
theorem dz_M_door_44 : decode cz_M_door 44 = .ok (.iaload, 1) := by decide +kernel
theorem dz_M_door_45 : decode cz_M_door 45 = .ok (.istore 5, 2) := by decide +kernel
theorem dz_M_door_47 : decode cz_M_door 47 = .ok (.iload_n 2, 1) := by decide +kernel
theorem dz_M_door_48 : decode cz_M_door 48 = .ok (.ifCond .ne 16, 3) := by decide +kernel
theorem dz_M_door_51 : decode cz_M_door 51 = .ok (.iload 5, 2) := by decide +kernel
theorem dz_M_door_53 : decode cz_M_door 53 = .ok (.ifCond .ne 7, 3) := by decide +kernel
theorem dz_M_door_56 : decode cz_M_door 56 = .ok (.iconst 1, 1) := by decide +kernel
theorem dz_M_door_57 : decode cz_M_door 57 = .ok (.goto 99, 3) := by decide +kernel
theorem dz_M_door_60 : decode cz_M_door 60 = .ok (.iconst 0, 1) := by decide +kernel
theorem dz_M_door_61 : decode cz_M_door 61 = .ok (.goto 95, 3) := by decide +kernel
theorem dz_M_door_64 : decode cz_M_door 64 = .ok (.iload_n 2, 1) := by decide +kernel
theorem dz_M_door_65 : decode cz_M_door 65 = .ok (.iconst 1, 1) := by decide +kernel
theorem dz_M_door_66 : decode cz_M_door 66 = .ok (.if_icmp .ne 22, 3) := by decide +kernel
theorem dz_M_door_69 : decode cz_M_door 69 = .ok (.iload 5, 2) := by decide +kernel
theorem dz_M_door_71 : decode cz_M_door 71 = .ok (.ifCond .eq 9, 3) := by decide +kernel
theorem dz_M_door_74 : decode cz_M_door 74 = .ok (.iload 5, 2) := by decide +kernel
theorem dz_M_door_76 : decode cz_M_door 76 = .ok (.iconst 1, 1) := by decide +kernel
theorem dz_M_door_77 : decode cz_M_door 77 = .ok (.if_icmp .ne 7, 3) := by decide +kernel
theorem dz_M_door_80 : decode cz_M_door 80 = .ok (.iconst 1, 1) := by decide +kernel
theorem dz_M_door_81 : decode cz_M_door 81 = .ok (.goto 75, 3) := by decide +kernel
theorem dz_M_door_84 : decode cz_M_door 84 = .ok (.iconst 0, 1) := by decide +kernel
theorem dz_M_door_85 : decode cz_M_door 85 = .ok (.goto 71, 3) := by decide +kernel
theorem dz_M_door_88 : decode cz_M_door 88 = .ok (.iload_n 2, 1) := by decide +kernel
theorem dz_M_door_89 : decode cz_M_door 89 = .ok (.iconst 2, 1) := by decide +kernel
theorem dz_M_door_90 : decode cz_M_door 90 = .ok (.if_icmp .ne 17, 3) := by decide +kernel
theorem dz_M_door_93 : decode cz_M_door 93 = .ok (.iload 5, 2) := by decide +kernel
theorem dz_M_door_95 : decode cz_M_door 95 = .ok (.iconst 2, 1) := by decide +kernel
theorem dz_M_door_96 : decode cz_M_door 96 = .ok (.if_icmp .ne 7, 3) := by decide +kernel
theorem dz_M_door_99 : decode cz_M_door 99 = .ok (.iconst 1, 1) := by decide +kernel
theorem dz_M_door_100 : decode cz_M_door 100 = .ok (.goto 56, 3) := by decide +kernel
theorem dz_M_door_103 : decode cz_M_door 103 = .ok (.iconst 0, 1) := by decide +kernel
theorem dz_M_door_104 : decode cz_M_door 104 = .ok (.goto 52, 3) := by decide +kernel
theorem dz_M_door_107 : decode cz_M_door 107 = .ok (.iload_n 2, 1) := by decide +kernel
theorem dz_M_door_108 : decode cz_M_door 108 = .ok (.iconst 3, 1) := by decide +kernel
theorem dz_M_door_109 : decode cz_M_door 109 = .ok (.if_icmp .ne 36, 3) := by decide +kernel
theorem dz_M_door_112 : decode cz_M_door 112 = .ok (.iload 5, 2) := by decide +kernel
theorem dz_M_door_114 : decode cz_M_door 114 = .ok (.ifCond .ne 27, 3) := by decide +kernel
theorem dz_M_door_117 : decode cz_M_door 117 = .ok (.aload_n 0, 1) := by decide +kernel
theorem dz_M_door_118 : decode cz_M_door 118 = .ok (.getfield 24, 3) := by decide +kernel
theorem dz_M_door_121 : decode cz_M_door 121 = .ok (.iload_n 1, 1) := by decide +kernel
theorem dz_M_door_122 : decode cz_M_door 122 = .ok (.iaload, 1) := by decide +kernel
theorem dz_M_door_123 : decode cz_M_door 123 = .ok (.ifCond .ne 18, 3) := by decide +kernel
theorem dz_M_door_126 : decode cz_M_door 126 = .ok (.aload_n 0, 1) := by decide +kernel
theorem dz_M_door_127 : decode cz_M_door 127 = .ok (.getfield 36, 3) := by decide +kernel
theorem dz_M_door_130 : decode cz_M_door 130 = .ok (.iload_n 1, 1) := by decide +kernel
theorem dz_M_door_131 : decode cz_M_door 131 = .ok (.laload, 1) := by decide +kernel
theorem dz_M_door_132 : decode cz_M_door 132 = .ok (.lconst 0, 1) := by decide +kernel
theorem dz_M_door_133 : decode cz_M_door 133 = .ok (.lcmp, 1) := by decide +kernel
theorem dz_M_door_134 : decode cz_M_door 134 = .ok (.ifCond .ne 7, 3) := by decide +kernel
theorem dz_M_door_137 : decode cz_M_door 137 = .ok (.iconst 1, 1) := by decide +kernel
theorem dz_M_door_138 : decode cz_M_door 138 = .ok (.goto 18, 3) := by decide +kernel
theorem dz_M_door_141 : decode cz_M_door 141 = .ok (.iconst 0, 1) := by decide +kernel
theorem dz_M_door_142 : decode cz_M_door 142 = .ok (.goto 14, 3) := by decide +kernel
theorem dz_M_door_145 : decode cz_M_door 145 = .ok (.iload 5, 2) := by decide +kernel
theorem dz_M_door_147 : decode cz_M_door 147 = .ok (.iconst 3, 1) := by decide +kernel
theorem dz_M_door_148 : decode cz_M_door 148 = .ok (.if_icmp .ne 7, 3) := by decide +kernel
theorem dz_M_door_151 : decode cz_M_door 151 = .ok (.iconst 1, 1) := by decide +kernel
theorem dz_M_door_152 : decode cz_M_door 152 = .ok (.goto 4, 3) := by decide +kernel
theorem dz_M_door_155 : decode cz_M_door 155 = .ok (.iconst 0, 1) := by decide +kernel
theorem dz_M_door_156 : decode cz_M_door 156 = .ok (.istore 6, 2) := by decide +kernel
theorem dz_M_door_158 : decode cz_M_door 158 = .ok (.iload 6, 2) := by decide +kernel
theorem dz_M_door_160 : decode cz_M_door 160 = .ok (.ifCond .ne 6, 3) := by decide +kernel
theorem dz_M_door_163 : decode cz_M_door 163 = .ok (.bipush (-13), 2) := by decide +kernel
theorem dz_M_door_165 : decode cz_M_door 165 = .ok (.ireturn, 1) := by decide +kernel
theorem dz_M_door_166 : decode cz_M_door 166 = .ok (.iload_n 2, 1) := by decide +kernel
theorem dz_M_door_167 : decode cz_M_door 167 = .ok (.iconst 2, 1) := by decide +kernel
theorem dz_M_door_168 : decode cz_M_door 168 = .ok (.if_icmp .ge 20, 3) := by decide +kernel
theorem dz_M_door_171 : decode cz_M_door 171 = .ok (.aload_n 0, 1) := by decide +kernel
theorem dz_M_door_172 : decode cz_M_door 172 = .ok (.iload_n 1, 1) := by decide +kernel
theorem dz_M_door_173 : decode cz_M_door 173 = .ok (.iload_n 2, 1) := by decide +kernel
theorem dz_M_door_174 : decode cz_M_door 174 = .ok (.ifCond .ne 7, 3) := by decide +kernel
theorem dz_M_door_177 : decode cz_M_door 177 = .ok (.iconst 1, 1) := by decide +kernel
theorem dz_M_door_178 : decode cz_M_door 178 = .ok (.goto 4, 3) := by decide +kernel
theorem dz_M_door_181 : decode cz_M_door 181 = .ok (.iconst 2, 1) := by decide +kernel
theorem dz_M_door_182 : decode cz_M_door 182 = .ok (.invokevirtual 100, 3) := by decide +kernel
theorem dz_M_door_185 : decode cz_M_door 185 = .ok (.goto 19, 3) := by decide +kernel
theorem dz_M_door_188 : decode cz_M_door 188 = .ok (.aload_n 0, 1) := by decide +kernel
theorem dz_M_door_189 : decode cz_M_door 189 = .ok (.getfield 13, 3) := by decide +kernel
theorem dz_M_door_192 : decode cz_M_door 192 = .ok (.iload_n 1, 1) := by decide +kernel
theorem dz_M_door_193 : decode cz_M_door 193 = .ok (.iload_n 2, 1) := by decide +kernel
theorem dz_M_door_194 : decode cz_M_door 194 = .ok (.iconst 3, 1) := by decide +kernel
theorem dz_M_door_195 : decode cz_M_door 195 = .ok (.if_icmp .ne 7, 3) := by decide +kernel
theorem dz_M_door_198 : decode cz_M_door 198 = .ok (.iconst 3, 1) := by decide +kernel
theorem dz_M_door_199 : decode cz_M_door 199 = .ok (.goto 4, 3) := by decide +kernel
theorem dz_M_door_202 : decode cz_M_door 202 = .ok (.iconst 0, 1) := by decide +kernel
theorem dz_M_door_203 : decode cz_M_door 203 = .ok (.iastore, 1) := by decide +kernel
theorem dz_M_door_204 : decode cz_M_door 204 = .ok (.aload_n 0, 1) := by decide +kernel
theorem dz_M_door_205 : decode cz_M_door 205 = .ok (.getfield 13, 3) := by decide +kernel
theorem dz_M_door_208 : decode cz_M_door 208 = .ok (.iload_n 1, 1) := by decide +kernel
theorem dz_M_door_209 : decode cz_M_door 209 = .ok (.iaload, 1) := by decide +kernel
theorem dz_M_door_210 : decode cz_M_door 210 = .ok (.ireturn, 1) := by decide +kernel
theorem dz_M_tick_0 : decode cz_M_tick 0 = .ok (.aload_n 0, 1) := by decide +kernel
theorem dz_M_tick_1 : decode cz_M_tick 1 = .ok (.lload_n 1, 1) := by decide +kernel
theorem dz_M_tick_2 : decode cz_M_tick 2 = .ok (.invokevirtual 82, 3) := by decide +kernel
theorem dz_M_tick_5 : decode cz_M_tick 5 = .ok (.ifCond .eq 6, 3) := by decide +kernel
theorem dz_M_tick_8 : decode cz_M_tick 8 = .ok (.bipush (-12), 2) := by decide +kernel
theorem dz_M_tick_10 : decode cz_M_tick 10 = .ok (.ireturn, 1) := by decide +kernel
theorem dz_M_tick_11 : decode cz_M_tick 11 = .ok (.aload_n 0, 1) := by decide +kernel
theorem dz_M_tick_12 : decode cz_M_tick 12 = .ok (.lload_n 1, 1) := by decide +kernel
theorem dz_M_tick_13 : decode cz_M_tick 13 = .ok (.invokevirtual 86, 3) := by decide +kernel
theorem dz_M_tick_16 : decode cz_M_tick 16 = .ok (.aload_n 0, 1) := by decide +kernel
theorem dz_M_tick_17 : decode cz_M_tick 17 = .ok (.getfield 71, 3) := by decide +kernel
theorem dz_M_tick_20 : decode cz_M_tick 20 = .ok (.istore_n 3, 1) := by decide +kernel
theorem dz_M_tick_21 : decode cz_M_tick 21 = .ok (.aload_n 0, 1) := by decide +kernel
theorem dz_M_tick_22 : decode cz_M_tick 22 = .ok (.iconst 0, 1) := by decide +kernel
theorem dz_M_tick_23 : decode cz_M_tick 23 = .ok (.putfield 71, 3) := by decide +kernel
theorem dz_M_tick_26 : decode cz_M_tick 26 = .ok (.iload_n 3, 1) := by decide +kernel
theorem dz_M_tick_27 : decode cz_M_tick 27 = .ok (.ireturn, 1) := by decide +kernel
theorem dz_M_take_0 : decode cz_M_take 0 = .ok (.aload_n 0, 1) := by decide +kernel
theorem dz_M_take_1 : decode cz_M_take 1 = .ok (.iload_n 1, 1) := by decide +kernel
theorem dz_M_take_2 : decode cz_M_take 2 = .ok (.invokevirtual 76, 3) := by decide +kernel
theorem dz_M_take_5 : decode cz_M_take 5 = .ok (.ifCond .ne 6, 3) := by decide +kernel
theorem dz_M_take_8 : decode cz_M_take 8 = .ok (.bipush (-11), 2) := by decide +kernel
theorem dz_M_take_10 : decode cz_M_take 10 = .ok (.ireturn, 1) := by decide +kernel
theorem dz_M_take_11 : decode cz_M_take 11 = .ok (.iload_n 2, 1) := by decide +kernel
theorem dz_M_take_12 : decode cz_M_take 12 = .ok (.i2l, 1) := by decide +kernel
theorem dz_M_take_13 : decode cz_M_take 13 = .ok (.lconst 0, 1) := by decide +kernel
theorem dz_M_take_14 : decode cz_M_take 14 = .ok (.ldc2_w 111, 3) := by decide +kernel
theorem dz_M_take_17 : decode cz_M_take 17 = .ok (.invokestatic 49, 3) := by decide +kernel
theorem dz_M_take_20 : decode cz_M_take 20 = .ok (.ifCond .ne 6, 3) := by decide +kernel
theorem dz_M_take_23 : decode cz_M_take 23 = .ok (.bipush (-12), 2) := by decide +kernel
theorem dz_M_take_25 : decode cz_M_take 25 = .ok (.ireturn, 1) := by decide +kernel
theorem dz_M_take_26 : decode cz_M_take 26 = .ok (.aload_n 0, 1) := by decide +kernel
theorem dz_M_take_27 : decode cz_M_take 27 = .ok (.getfield 13, 3) := by decide +kernel
theorem dz_M_take_30 : decode cz_M_take 30 = .ok (.iload_n 1, 1) := by decide +kernel
theorem dz_M_take_31 : decode cz_M_take 31 = .ok (.iaload, 1) := by decide +kernel
theorem dz_M_take_32 : decode cz_M_take 32 = .ok (.iconst 1, 1) := by decide +kernel
theorem dz_M_take_33 : decode cz_M_take 33 = .ok (.if_icmp .eq 13, 3) := by decide +kernel
theorem dz_M_take_36 : decode cz_M_take 36 = .ok (.aload_n 0, 1) := by decide +kernel
theorem dz_M_take_37 : decode cz_M_take 37 = .ok (.getfield 13, 3) := by decide +kernel
theorem dz_M_take_40 : decode cz_M_take 40 = .ok (.iload_n 1, 1) := by decide +kernel
theorem dz_M_take_41 : decode cz_M_take 41 = .ok (.iaload, 1) := by decide +kernel
theorem dz_M_take_42 : decode cz_M_take 42 = .ok (.iconst 2, 1) := by decide +kernel
theorem dz_M_take_43 : decode cz_M_take 43 = .ok (.if_icmp .ne 11, 3) := by decide +kernel
theorem dz_M_take_46 : decode cz_M_take 46 = .ok (.aload_n 0, 1) := by decide +kernel
theorem dz_M_take_47 : decode cz_M_take 47 = .ok (.iload_n 1, 1) := by decide +kernel
theorem dz_M_take_48 : decode cz_M_take 48 = .ok (.invokevirtual 96, 3) := by decide +kernel
theorem dz_M_take_51 : decode cz_M_take 51 = .ok (.goto 4, 3) := by decide +kernel
theorem dz_M_take_54 : decode cz_M_take 54 = .ok (.iconst 0, 1) := by decide +kernel
theorem dz_M_take_55 : decode cz_M_take 55 = .ok (.ireturn, 1) := by decide +kernel
theorem dz_M_item_0 : decode cz_M_item 0 = .ok (.aload_n 0, 1) := by decide +kernel
theorem dz_M_item_1 : decode cz_M_item 1 = .ok (.iload_n 1, 1) := by decide +kernel
theorem dz_M_item_2 : decode cz_M_item 2 = .ok (.invokevirtual 76, 3) := by decide +kernel
theorem dz_M_item_5 : decode cz_M_item 5 = .ok (.ifCond .ne 8, 3) := by decide +kernel
theorem dz_M_item_8 : decode cz_M_item 8 = .ok (.bipush (-11), 2) := by decide +kernel
theorem dz_M_item_10 : decode cz_M_item 10 = .ok (.goto 28, 3) := by decide +kernel
theorem dz_M_item_13 : decode cz_M_item 13 = .ok (.aload_n 0, 1) := by decide +kernel
theorem dz_M_item_14 : decode cz_M_item 14 = .ok (.getfield 33, 3) := by decide +kernel
theorem dz_M_item_17 : decode cz_M_item 17 = .ok (.iload_n 1, 1) := by decide +kernel
theorem dz_M_item_18 : decode cz_M_item 18 = .ok (.baload, 1) := by decide +kernel
theorem dz_M_item_19 : decode cz_M_item 19 = .ok (.ifCond .eq 13, 3) := by decide +kernel
theorem dz_M_item_22 : decode cz_M_item 22 = .ok (.aload_n 0, 1) := by decide +kernel
theorem dz_M_item_23 : decode cz_M_item 23 = .ok (.getfield 24, 3) := by decide +kernel
theorem dz_M_item_26 : decode cz_M_item 26 = .ok (.iload_n 1, 1) := by decide +kernel
theorem dz_M_item_27 : decode cz_M_item 27 = .ok (.iaload, 1) := by decide +kernel
theorem dz_M_item_28 : decode cz_M_item 28 = .ok (.ineg, 1) := by decide +kernel
theorem dz_M_item_29 : decode cz_M_item 29 = .ok (.goto 9, 3) := by decide +kernel
theorem dz_M_item_32 : decode cz_M_item 32 = .ok (.aload_n 0, 1) := by decide +kernel
theorem dz_M_item_33 : decode cz_M_item 33 = .ok (.getfield 24, 3) := by decide +kernel
theorem dz_M_item_36 : decode cz_M_item 36 = .ok (.iload_n 1, 1) := by decide +kernel
theorem dz_M_item_37 : decode cz_M_item 37 = .ok (.iaload, 1) := by decide +kernel
theorem dz_M_item_38 : decode cz_M_item 38 = .ok (.ireturn, 1) := by decide +kernel
theorem dz_M_freed_0 : decode cz_M_freed 0 = .ok (.iload_n 1, 1) := by decide +kernel
theorem dz_M_freed_1 : decode cz_M_freed 1 = .ok (.i2l, 1) := by decide +kernel
theorem dz_M_freed_2 : decode cz_M_freed 2 = .ok (.lconst 0, 1) := by decide +kernel
theorem dz_M_freed_3 : decode cz_M_freed 3 = .ok (.aload_n 0, 1) := by decide +kernel
theorem dz_M_freed_4 : decode cz_M_freed 4 = .ok (.getfield 66, 3) := by decide +kernel
theorem dz_M_freed_7 : decode cz_M_freed 7 = .ok (.iconst 1, 1) := by decide +kernel
theorem dz_M_freed_8 : decode cz_M_freed 8 = .ok (.isub, 1) := by decide +kernel
theorem dz_M_freed_9 : decode cz_M_freed 9 = .ok (.i2l, 1) := by decide +kernel
theorem dz_M_freed_10 : decode cz_M_freed 10 = .ok (.invokestatic 49, 3) := by decide +kernel
theorem dz_M_freed_13 : decode cz_M_freed 13 = .ok (.ifCond .eq 12, 3) := by decide +kernel
theorem dz_M_freed_16 : decode cz_M_freed 16 = .ok (.aload_n 0, 1) := by decide +kernel
theorem dz_M_freed_17 : decode cz_M_freed 17 = .ok (.getfield 42, 3) := by decide +kernel
theorem dz_M_freed_20 : decode cz_M_freed 20 = .ok (.iload_n 1, 1) := by decide +kernel
theorem dz_M_freed_21 : decode cz_M_freed 21 = .ok (.iaload, 1) := by decide +kernel
theorem dz_M_freed_22 : decode cz_M_freed 22 = .ok (.goto 4, 3) := by decide +kernel
theorem dz_M_freed_25 : decode cz_M_freed 25 = .ok (.iconst 0, 1) := by decide +kernel
theorem dz_M_freed_26 : decode cz_M_freed 26 = .ok (.ireturn, 1) := by decide +kernel
