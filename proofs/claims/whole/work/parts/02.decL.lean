theorem dz_L_init_0 : decode cz_L_init 0 = .ok (.aload_n 0, 1) := by decide +kernel
theorem dz_L_init_1 : decode cz_L_init 1 = .ok (.invokespecial 1, 3) := by decide +kernel
theorem dz_L_init_4 : decode cz_L_init 4 = .ok (.aload_n 0, 1) := by decide +kernel
theorem dz_L_init_5 : decode cz_L_init 5 = .ok (.bipush 60, 2) := by decide +kernel
theorem dz_L_init_7 : decode cz_L_init 7 = .ok (.anewarray 9, 3) := by decide +kernel
theorem dz_L_init_10 : decode cz_L_init 10 = .ok (.putfield 11, 3) := by decide +kernel
theorem dz_L_init_13 : decode cz_L_init 13 = .ok (.aload_n 0, 1) := by decide +kernel
theorem dz_L_init_14 : decode cz_L_init 14 = .ok (.iconst 0, 1) := by decide +kernel
theorem dz_L_init_15 : decode cz_L_init 15 = .ok (.putfield 15, 3) := by decide +kernel
theorem dz_L_init_18 : decode cz_L_init 18 = .ok (.aload_n 0, 1) := by decide +kernel
theorem dz_L_init_19 : decode cz_L_init 19 = .ok (.new 19, 3) := by decide +kernel
theorem dz_L_init_22 : decode cz_L_init 22 = .ok (.dup, 1) := by decide +kernel
theorem dz_L_init_23 : decode cz_L_init 23 = .ok (.invokespecial 21, 3) := by decide +kernel
theorem dz_L_init_26 : decode cz_L_init 26 = .ok (.putfield 22, 3) := by decide +kernel
theorem dz_L_init_29 : decode cz_L_init 29 = .ok (.aload_n 0, 1) := by decide +kernel
theorem dz_L_init_30 : decode cz_L_init 30 = .ok (.bipush 100, 2) := by decide +kernel
theorem dz_L_init_32 : decode cz_L_init 32 = .ok (.newarray .int, 2) := by decide +kernel
theorem dz_L_init_34 : decode cz_L_init 34 = .ok (.putfield 26, 3) := by decide +kernel
theorem dz_L_init_37 : decode cz_L_init 37 = .ok (.aload_n 0, 1) := by decide +kernel
theorem dz_L_init_38 : decode cz_L_init 38 = .ok (.iconst 0, 1) := by decide +kernel
theorem dz_L_init_39 : decode cz_L_init 39 = .ok (.putfield 30, 3) := by decide +kernel
theorem dz_L_init_42 : decode cz_L_init 42 = .ok (.aload_n 0, 1) := by decide +kernel
theorem dz_L_init_43 : decode cz_L_init 43 = .ok (.lconst 0, 1) := by decide +kernel
theorem dz_L_init_44 : decode cz_L_init 44 = .ok (.putfield 33, 3) := by decide +kernel
theorem dz_L_init_47 : decode cz_L_init 47 = .ok (.aload_n 0, 1) := by decide +kernel
theorem dz_L_init_48 : decode cz_L_init 48 = .ok (.iconst 0, 1) := by decide +kernel
theorem dz_L_init_49 : decode cz_L_init 49 = .ok (.putfield 37, 3) := by decide +kernel
theorem dz_L_init_52 : decode cz_L_init 52 = .ok (.aload_n 0, 1) := by decide +kernel
theorem dz_L_init_53 : decode cz_L_init 53 = .ok (.iconst 0, 1) := by decide +kernel
theorem dz_L_init_54 : decode cz_L_init 54 = .ok (.putfield 40, 3) := by decide +kernel
theorem dz_L_init_57 : decode cz_L_init 57 = .ok (.aload_n 0, 1) := by decide +kernel
theorem dz_L_init_58 : decode cz_L_init 58 = .ok (.lconst 0, 1) := by decide +kernel
theorem dz_L_init_59 : decode cz_L_init 59 = .ok (.putfield 43, 3) := by decide +kernel
theorem dz_L_init_62 : decode cz_L_init 62 = .ok (.return_, 1) := by decide +kernel
theorem dz_L_box_0 : decode cz_L_box 0 = .ok (.iload_n 1, 1) := by decide +kernel
theorem dz_L_box_1 : decode cz_L_box 1 = .ok (.invokestatic 46, 3) := by decide +kernel
theorem dz_L_box_4 : decode cz_L_box 4 = .ok (.ifCond .ne 6, 3) := by decide +kernel
theorem dz_L_box_7 : decode cz_L_box 7 = .ok (.bipush (-12), 2) := by decide +kernel
theorem dz_L_box_9 : decode cz_L_box 9 = .ok (.ireturn, 1) := by decide +kernel
theorem dz_L_box_10 : decode cz_L_box 10 = .ok (.aload_n 0, 1) := by decide +kernel
theorem dz_L_box_11 : decode cz_L_box 11 = .ok (.getfield 15, 3) := by decide +kernel
theorem dz_L_box_14 : decode cz_L_box 14 = .ok (.bipush 60, 2) := by decide +kernel
theorem dz_L_box_16 : decode cz_L_box 16 = .ok (.if_icmp .lt 6, 3) := by decide +kernel
theorem dz_L_box_19 : decode cz_L_box 19 = .ok (.bipush (-14), 2) := by decide +kernel
theorem dz_L_box_21 : decode cz_L_box 21 = .ok (.ireturn, 1) := by decide +kernel
theorem dz_L_box_22 : decode cz_L_box 22 = .ok (.aload_n 0, 1) := by decide +kernel
theorem dz_L_box_23 : decode cz_L_box 23 = .ok (.getfield 11, 3) := by decide +kernel
theorem dz_L_box_26 : decode cz_L_box 26 = .ok (.aload_n 0, 1) := by decide +kernel
theorem dz_L_box_27 : decode cz_L_box 27 = .ok (.getfield 15, 3) := by decide +kernel
theorem dz_L_box_30 : decode cz_L_box 30 = .ok (.new 9, 3) := by decide +kernel
theorem dz_L_box_33 : decode cz_L_box 33 = .ok (.dup, 1) := by decide +kernel
theorem dz_L_box_34 : decode cz_L_box 34 = .ok (.iload_n 1, 1) := by decide +kernel
theorem dz_L_box_35 : decode cz_L_box 35 = .ok (.invokespecial 50, 3) := by decide +kernel
theorem dz_L_box_38 : decode cz_L_box 38 = .ok (.aastore, 1) := by decide +kernel
theorem dz_L_box_39 : decode cz_L_box 39 = .ok (.aload_n 0, 1) := by decide +kernel
theorem dz_L_box_40 : decode cz_L_box 40 = .ok (.dup, 1) := by decide +kernel
theorem dz_L_box_41 : decode cz_L_box 41 = .ok (.getfield 15, 3) := by decide +kernel
theorem dz_L_box_44 : decode cz_L_box 44 = .ok (.iconst 1, 1) := by decide +kernel
theorem dz_L_box_45 : decode cz_L_box 45 = .ok (.iadd, 1) := by decide +kernel
theorem dz_L_box_46 : decode cz_L_box 46 = .ok (.putfield 15, 3) := by decide +kernel
theorem dz_L_box_49 : decode cz_L_box 49 = .ok (.aload_n 0, 1) := by decide +kernel
theorem dz_L_box_50 : decode cz_L_box 50 = .ok (.getfield 15, 3) := by decide +kernel
theorem dz_L_box_53 : decode cz_L_box 53 = .ok (.ireturn, 1) := by decide +kernel
theorem dz_L_tape_0 : decode cz_L_tape 0 = .ok (.iload_n 1, 1) := by decide +kernel
theorem dz_L_tape_1 : decode cz_L_tape 1 = .ok (.invokestatic 53, 3) := by decide +kernel
theorem dz_L_tape_4 : decode cz_L_tape 4 = .ok (.ifCond .ne 6, 3) := by decide +kernel
theorem dz_L_tape_7 : decode cz_L_tape 7 = .ok (.bipush (-12), 2) := by decide +kernel
theorem dz_L_tape_9 : decode cz_L_tape 9 = .ok (.ireturn, 1) := by decide +kernel
theorem dz_L_tape_10 : decode cz_L_tape 10 = .ok (.aload_n 0, 1) := by decide +kernel
theorem dz_L_tape_11 : decode cz_L_tape 11 = .ok (.getfield 22, 3) := by decide +kernel
theorem dz_L_tape_14 : decode cz_L_tape 14 = .ok (.iload_n 1, 1) := by decide +kernel
theorem dz_L_tape_15 : decode cz_L_tape 15 = .ok (.invokevirtual 56, 3) := by decide +kernel
theorem dz_L_tape_18 : decode cz_L_tape 18 = .ok (.ifCond .eq 13, 3) := by decide +kernel
theorem dz_L_tape_21 : decode cz_L_tape 21 = .ok (.aload_n 0, 1) := by decide +kernel
theorem dz_L_tape_22 : decode cz_L_tape 22 = .ok (.getfield 22, 3) := by decide +kernel
theorem dz_L_tape_25 : decode cz_L_tape 25 = .ok (.invokevirtual 59, 3) := by decide +kernel
theorem dz_L_tape_28 : decode cz_L_tape 28 = .ok (.goto 5, 3) := by decide +kernel
theorem dz_L_tape_31 : decode cz_L_tape 31 = .ok (.bipush (-14), 2) := by decide +kernel
theorem dz_L_tape_33 : decode cz_L_tape 33 = .ok (.ireturn, 1) := by decide +kernel
theorem dz_L_reserve_0 : decode cz_L_reserve 0 = .ok (.iload_n 1, 1) := by decide +kernel
theorem dz_L_reserve_1 : decode cz_L_reserve 1 = .ok (.invokestatic 46, 3) := by decide +kernel
theorem dz_L_reserve_4 : decode cz_L_reserve 4 = .ok (.ifCond .eq 20, 3) := by decide +kernel
theorem dz_L_reserve_7 : decode cz_L_reserve 7 = .ok (.lload_n 2, 1) := by decide +kernel
theorem dz_L_reserve_8 : decode cz_L_reserve 8 = .ok (.aload_n 0, 1) := by decide +kernel
theorem dz_L_reserve_9 : decode cz_L_reserve 9 = .ok (.getfield 33, 3) := by decide +kernel
theorem dz_L_reserve_12 : decode cz_L_reserve 12 = .ok (.lcmp, 1) := by decide +kernel
theorem dz_L_reserve_13 : decode cz_L_reserve 13 = .ok (.ifCond .le 11, 3) := by decide +kernel
theorem dz_L_reserve_16 : decode cz_L_reserve 16 = .ok (.lload_n 2, 1) := by decide +kernel
theorem dz_L_reserve_17 : decode cz_L_reserve 17 = .ok (.ldc2_w 63, 3) := by decide +kernel
theorem dz_L_reserve_20 : decode cz_L_reserve 20 = .ok (.lcmp, 1) := by decide +kernel
theorem dz_L_reserve_21 : decode cz_L_reserve 21 = .ok (.ifCond .le 6, 3) := by decide +kernel
theorem dz_L_reserve_24 : decode cz_L_reserve 24 = .ok (.bipush (-12), 2) := by decide +kernel
theorem dz_L_reserve_26 : decode cz_L_reserve 26 = .ok (.ireturn, 1) := by decide +kernel
theorem dz_L_reserve_27 : decode cz_L_reserve 27 = .ok (.aload_n 0, 1) := by decide +kernel
theorem dz_L_reserve_28 : decode cz_L_reserve 28 = .ok (.iload_n 1, 1) := by decide +kernel
theorem dz_L_reserve_29 : decode cz_L_reserve 29 = .ok (.invokevirtual 65, 3) := by decide +kernel
theorem dz_L_reserve_32 : decode cz_L_reserve 32 = .ok (.istore 4, 2) := by decide +kernel
theorem dz_L_reserve_34 : decode cz_L_reserve 34 = .ok (.aload_n 0, 1) := by decide +kernel
theorem dz_L_reserve_35 : decode cz_L_reserve 35 = .ok (.iload 4, 2) := by decide +kernel
theorem dz_L_reserve_37 : decode cz_L_reserve 37 = .ok (.invokevirtual 69, 3) := by decide +kernel
theorem dz_L_reserve_40 : decode cz_L_reserve 40 = .ok (.astore 5, 2) := by decide +kernel
theorem dz_L_reserve_42 : decode cz_L_reserve 42 = .ok (.aload 5, 2) := by decide +kernel
theorem dz_L_reserve_44 : decode cz_L_reserve 44 = .ok (.ifnonnull 5, 3) := by decide +kernel
theorem dz_L_reserve_47 : decode cz_L_reserve 47 = .ok (.iconst 0, 1) := by decide +kernel
theorem dz_L_reserve_48 : decode cz_L_reserve 48 = .ok (.ireturn, 1) := by decide +kernel
theorem dz_L_reserve_49 : decode cz_L_reserve 49 = .ok (.aload 5, 2) := by decide +kernel
theorem dz_L_reserve_51 : decode cz_L_reserve 51 = .ok (.lload_n 2, 1) := by decide +kernel
theorem dz_L_reserve_52 : decode cz_L_reserve 52 = .ok (.putfield 73, 3) := by decide +kernel
theorem dz_L_reserve_55 : decode cz_L_reserve 55 = .ok (.iload 4, 2) := by decide +kernel
theorem dz_L_reserve_57 : decode cz_L_reserve 57 = .ok (.ireturn, 1) := by decide +kernel
theorem dz_L_put_0 : decode cz_L_put 0 = .ok (.aload_n 0, 1) := by decide +kernel
theorem dz_L_put_1 : decode cz_L_put 1 = .ok (.iload_n 1, 1) := by decide +kernel
theorem dz_L_put_2 : decode cz_L_put 2 = .ok (.invokevirtual 69, 3) := by decide +kernel
theorem dz_L_put_5 : decode cz_L_put 5 = .ok (.astore 5, 2) := by decide +kernel
theorem dz_L_put_7 : decode cz_L_put 7 = .ok (.aload 5, 2) := by decide +kernel
theorem dz_L_put_9 : decode cz_L_put 9 = .ok (.ifnonnull 6, 3) := by decide +kernel
theorem dz_L_put_12 : decode cz_L_put 12 = .ok (.bipush (-11), 2) := by decide +kernel
theorem dz_L_put_14 : decode cz_L_put 14 = .ok (.ireturn, 1) := by decide +kernel
theorem dz_L_put_15 : decode cz_L_put 15 = .ok (.iload_n 2, 1) := by decide +kernel
theorem dz_L_put_16 : decode cz_L_put 16 = .ok (.invokestatic 76, 3) := by decide +kernel
theorem dz_L_put_19 : decode cz_L_put 19 = .ok (.ifCond .eq 11, 3) := by decide +kernel
theorem dz_L_put_22 : decode cz_L_put 22 = .ok (.aload_n 0, 1) := by decide +kernel
theorem dz_L_put_23 : decode cz_L_put 23 = .ok (.lload_n 3, 1) := by decide +kernel
theorem dz_L_put_24 : decode cz_L_put 24 = .ok (.invokevirtual 79, 3) := by decide +kernel
theorem dz_L_put_27 : decode cz_L_put 27 = .ok (.ifCond .ne 6, 3) := by decide +kernel
theorem dz_L_put_30 : decode cz_L_put 30 = .ok (.bipush (-12), 2) := by decide +kernel
theorem dz_L_put_32 : decode cz_L_put 32 = .ok (.ireturn, 1) := by decide +kernel
theorem dz_L_put_33 : decode cz_L_put 33 = .ok (.aload_n 0, 1) := by decide +kernel
theorem dz_L_put_34 : decode cz_L_put 34 = .ok (.lload_n 3, 1) := by decide +kernel
theorem dz_L_put_35 : decode cz_L_put 35 = .ok (.invokevirtual 83, 3) := by decide +kernel
theorem dz_L_put_38 : decode cz_L_put 38 = .ok (.aload 5, 2) := by decide +kernel
theorem dz_L_put_40 : decode cz_L_put 40 = .ok (.getfield 87, 3) := by decide +kernel
theorem dz_L_put_43 : decode cz_L_put 43 = .ok (.iconst 1, 1) := by decide +kernel
theorem dz_L_put_44 : decode cz_L_put 44 = .ok (.if_icmp .ne 19, 3) := by decide +kernel
theorem dz_L_put_47 : decode cz_L_put 47 = .ok (.aload 5, 2) := by decide +kernel
theorem dz_L_put_49 : decode cz_L_put 49 = .ok (.invokevirtual 90, 3) := by decide +kernel
theorem dz_L_put_52 : decode cz_L_put 52 = .ok (.ifCond .eq 11, 3) := by decide +kernel
theorem dz_L_put_55 : decode cz_L_put 55 = .ok (.aload_n 0, 1) := by decide +kernel
theorem dz_L_put_56 : decode cz_L_put 56 = .ok (.iload_n 2, 1) := by decide +kernel
theorem dz_L_put_57 : decode cz_L_put 57 = .ok (.invokevirtual 94, 3) := by decide +kernel
theorem dz_L_put_60 : decode cz_L_put 60 = .ok (.ifnull 5, 3) := by decide +kernel
theorem dz_L_put_63 : decode cz_L_put 63 = .ok (.iconst 0, 1) := by decide +kernel
theorem dz_L_put_64 : decode cz_L_put 64 = .ok (.ireturn, 1) := by decide +kernel
theorem dz_L_put_65 : decode cz_L_put 65 = .ok (.aload 5, 2) := by decide +kernel
theorem dz_L_put_67 : decode cz_L_put 67 = .ok (.iload_n 2, 1) := by decide +kernel
theorem dz_L_put_68 : decode cz_L_put 68 = .ok (.invokevirtual 97, 3) := by decide +kernel
theorem dz_L_put_71 : decode cz_L_put 71 = .ok (.iconst 1, 1) := by decide +kernel
theorem dz_L_put_72 : decode cz_L_put 72 = .ok (.ireturn, 1) := by decide +kernel
theorem dz_L_close_0 : decode cz_L_close 0 = .ok (.aload_n 0, 1) := by decide +kernel
theorem dz_L_close_1 : decode cz_L_close 1 = .ok (.iload_n 1, 1) := by decide +kernel
theorem dz_L_close_2 : decode cz_L_close 2 = .ok (.invokevirtual 69, 3) := by decide +kernel
theorem dz_L_close_5 : decode cz_L_close 5 = .ok (.astore 4, 2) := by decide +kernel
theorem dz_L_close_7 : decode cz_L_close 7 = .ok (.aload 4, 2) := by decide +kernel
theorem dz_L_close_9 : decode cz_L_close 9 = .ok (.ifnonnull 6, 3) := by decide +kernel
theorem dz_L_close_12 : decode cz_L_close 12 = .ok (.bipush (-11), 2) := by decide +kernel
theorem dz_L_close_14 : decode cz_L_close 14 = .ok (.ireturn, 1) := by decide +kernel
theorem dz_L_close_15 : decode cz_L_close 15 = .ok (.aload_n 0, 1) := by decide +kernel
theorem dz_L_close_16 : decode cz_L_close 16 = .ok (.lload_n 2, 1) := by decide +kernel
theorem dz_L_close_17 : decode cz_L_close 17 = .ok (.invokevirtual 79, 3) := by decide +kernel
theorem dz_L_close_20 : decode cz_L_close 20 = .ok (.ifCond .ne 6, 3) := by decide +kernel
theorem dz_L_close_23 : decode cz_L_close 23 = .ok (.bipush (-12), 2) := by decide +kernel
theorem dz_L_close_25 : decode cz_L_close 25 = .ok (.ireturn, 1) := by decide +kernel
theorem dz_L_close_26 : decode cz_L_close 26 = .ok (.aload_n 0, 1) := by decide +kernel
theorem dz_L_close_27 : decode cz_L_close 27 = .ok (.lload_n 2, 1) := by decide +kernel
theorem dz_L_close_28 : decode cz_L_close 28 = .ok (.invokevirtual 83, 3) := by decide +kernel
theorem dz_L_close_31 : decode cz_L_close 31 = .ok (.aload 4, 2) := by decide +kernel
theorem dz_L_close_33 : decode cz_L_close 33 = .ok (.getfield 87, 3) := by decide +kernel
theorem dz_L_close_36 : decode cz_L_close 36 = .ok (.iconst 1, 1) := by decide +kernel
theorem dz_L_close_37 : decode cz_L_close 37 = .ok (.if_icmp .eq 6, 3) := by decide +kernel
theorem dz_L_close_40 : decode cz_L_close 40 = .ok (.bipush (-13), 2) := by decide +kernel
theorem dz_L_close_42 : decode cz_L_close 42 = .ok (.ireturn, 1) := by decide +kernel
theorem dz_L_close_43 : decode cz_L_close 43 = .ok (.aload 4, 2) := by decide +kernel
theorem dz_L_close_45 : decode cz_L_close 45 = .ok (.invokevirtual 100, 3) := by decide +kernel
theorem dz_L_close_48 : decode cz_L_close 48 = .ok (.ifCond .ne 11, 3) := by decide +kernel
theorem dz_L_close_51 : decode cz_L_close 51 = .ok (.aload 4, 2) := by decide +kernel
theorem dz_L_close_53 : decode cz_L_close 53 = .ok (.iconst 0, 1) := by decide +kernel
theorem dz_L_close_54 : decode cz_L_close 54 = .ok (.putfield 87, 3) := by decide +kernel
theorem dz_L_close_57 : decode cz_L_close 57 = .ok (.iconst (-1), 1) := by decide +kernel
theorem dz_L_close_58 : decode cz_L_close 58 = .ok (.ireturn, 1) := by decide +kernel
theorem dz_L_close_59 : decode cz_L_close 59 = .ok (.aload_n 0, 1) := by decide +kernel
theorem dz_L_close_60 : decode cz_L_close 60 = .ok (.invokevirtual 103, 3) := by decide +kernel
theorem dz_L_close_63 : decode cz_L_close 63 = .ok (.istore 5, 2) := by decide +kernel
theorem dz_L_close_65 : decode cz_L_close 65 = .ok (.iload 5, 2) := by decide +kernel
theorem dz_L_close_67 : decode cz_L_close 67 = .ok (.iconst (-1), 1) := by decide +kernel
theorem dz_L_close_68 : decode cz_L_close 68 = .ok (.if_icmp .ne 6, 3) := by decide +kernel
theorem dz_L_close_71 : decode cz_L_close 71 = .ok (.bipush (-14), 2) := by decide +kernel
theorem dz_L_close_73 : decode cz_L_close 73 = .ok (.ireturn, 1) := by decide +kernel
theorem dz_L_close_74 : decode cz_L_close 74 = .ok (.aload 4, 2) := by decide +kernel
theorem dz_L_close_76 : decode cz_L_close 76 = .ok (.iload 5, 2) := by decide +kernel
theorem dz_L_close_78 : decode cz_L_close 78 = .ok (.lload_n 2, 1) := by decide +kernel
theorem dz_L_close_79 : decode cz_L_close 79 = .ok (.invokevirtual 106, 3) := by decide +kernel
theorem dz_L_close_82 : decode cz_L_close 82 = .ok (.aload 4, 2) := by decide +kernel
theorem dz_L_close_84 : decode cz_L_close 84 = .ok (.iconst 0, 1) := by decide +kernel
theorem dz_L_close_85 : decode cz_L_close 85 = .ok (.putfield 87, 3) := by decide +kernel
theorem dz_L_close_88 : decode cz_L_close 88 = .ok (.iload 5, 2) := by decide +kernel
theorem dz_L_close_90 : decode cz_L_close 90 = .ok (.ireturn, 1) := by decide +kernel
theorem dz_L_type_0 : decode cz_L_type 0 = .ok (.iload_n 1, 1) := by decide +kernel
theorem dz_L_type_1 : decode cz_L_type 1 = .ok (.invokestatic 53, 3) := by decide +kernel
theorem dz_L_type_4 : decode cz_L_type 4 = .ok (.ifCond .eq 11, 3) := by decide +kernel
theorem dz_L_type_7 : decode cz_L_type 7 = .ok (.aload_n 0, 1) := by decide +kernel
theorem dz_L_type_8 : decode cz_L_type 8 = .ok (.lload_n 2, 1) := by decide +kernel
theorem dz_L_type_9 : decode cz_L_type 9 = .ok (.invokevirtual 79, 3) := by decide +kernel
theorem dz_L_type_12 : decode cz_L_type 12 = .ok (.ifCond .ne 6, 3) := by decide +kernel
theorem dz_L_type_15 : decode cz_L_type 15 = .ok (.bipush (-12), 2) := by decide +kernel
theorem dz_L_type_17 : decode cz_L_type 17 = .ok (.ireturn, 1) := by decide +kernel
theorem dz_L_type_18 : decode cz_L_type 18 = .ok (.aload_n 0, 1) := by decide +kernel
theorem dz_L_type_19 : decode cz_L_type 19 = .ok (.lload_n 2, 1) := by decide +kernel
theorem dz_L_type_20 : decode cz_L_type 20 = .ok (.invokevirtual 83, 3) := by decide +kernel
theorem dz_L_type_23 : decode cz_L_type 23 = .ok (.lload_n 2, 1) := by decide +kernel
theorem dz_L_type_24 : decode cz_L_type 24 = .ok (.aload_n 0, 1) := by decide +kernel
theorem dz_L_type_25 : decode cz_L_type 25 = .ok (.getfield 43, 3) := by decide +kernel
theorem dz_L_type_28 : decode cz_L_type 28 = .ok (.lcmp, 1) := by decide +kernel
theorem dz_L_type_29 : decode cz_L_type 29 = .ok (.ifCond .ge 5, 3) := by decide +kernel
theorem dz_L_type_32 : decode cz_L_type 32 = .ok (.iconst (-1), 1) := by decide +kernel
theorem dz_L_type_33 : decode cz_L_type 33 = .ok (.ireturn, 1) := by decide +kernel
theorem dz_L_type_34 : decode cz_L_type 34 = .ok (.aload_n 0, 1) := by decide +kernel
theorem dz_L_type_35 : decode cz_L_type 35 = .ok (.iload_n 1, 1) := by decide +kernel
theorem dz_L_type_36 : decode cz_L_type 36 = .ok (.invokevirtual 110, 3) := by decide +kernel
theorem dz_L_type_39 : decode cz_L_type 39 = .ok (.istore 4, 2) := by decide +kernel
theorem dz_L_type_41 : decode cz_L_type 41 = .ok (.aload_n 0, 1) := by decide +kernel
theorem dz_L_type_42 : decode cz_L_type 42 = .ok (.iload 4, 2) := by decide +kernel
theorem dz_L_type_44 : decode cz_L_type 44 = .ok (.invokevirtual 69, 3) := by decide +kernel
theorem dz_L_type_47 : decode cz_L_type 47 = .ok (.astore 5, 2) := by decide +kernel
theorem dz_L_type_49 : decode cz_L_type 49 = .ok (.aload 5, 2) := by decide +kernel
theorem dz_L_type_51 : decode cz_L_type 51 = .ok (.ifnull 11, 3) := by decide +kernel
theorem dz_L_type_54 : decode cz_L_type 54 = .ok (.aload 5, 2) := by decide +kernel
theorem dz_L_type_56 : decode cz_L_type 56 = .ok (.getfield 87, 3) := by decide +kernel
theorem dz_L_type_59 : decode cz_L_type 59 = .ok (.ifCond .eq 10, 3) := by decide +kernel
theorem dz_L_type_62 : decode cz_L_type 62 = .ok (.aload_n 0, 1) := by decide +kernel
theorem dz_L_type_63 : decode cz_L_type 63 = .ok (.lload_n 2, 1) := by decide +kernel
theorem dz_L_type_64 : decode cz_L_type 64 = .ok (.invokevirtual 113, 3) := by decide +kernel
theorem dz_L_type_67 : decode cz_L_type 67 = .ok (.iconst 0, 1) := by decide +kernel
theorem dz_L_type_68 : decode cz_L_type 68 = .ok (.ireturn, 1) := by decide +kernel
theorem dz_L_type_69 : decode cz_L_type 69 = .ok (.aload_n 0, 1) := by decide +kernel
theorem dz_L_type_70 : decode cz_L_type 70 = .ok (.iconst 0, 1) := by decide +kernel
theorem dz_L_type_71 : decode cz_L_type 71 = .ok (.putfield 40, 3) := by decide +kernel
theorem dz_L_type_74 : decode cz_L_type 74 = .ok (.aload 5, 2) := by decide +kernel
theorem dz_L_type_76 : decode cz_L_type 76 = .ok (.invokevirtual 116, 3) := by decide +kernel
theorem dz_L_type_79 : decode cz_L_type 79 = .ok (.aload 5, 2) := by decide +kernel
theorem dz_L_type_81 : decode cz_L_type 81 = .ok (.iconst 1, 1) := by decide +kernel
theorem dz_L_type_82 : decode cz_L_type 82 = .ok (.lload_n 2, 1) := by decide +kernel
theorem dz_L_type_83 : decode cz_L_type 83 = .ok (.invokevirtual 119, 3) := by decide +kernel
theorem dz_L_type_86 : decode cz_L_type 86 = .ok (.iload 4, 2) := by decide +kernel
theorem dz_L_type_88 : decode cz_L_type 88 = .ok (.ireturn, 1) := by decide +kernel
theorem dz_L_code_0 : decode cz_L_code 0 = .ok (.iload_n 1, 1) := by decide +kernel
theorem dz_L_code_1 : decode cz_L_code 1 = .ok (.invokestatic 76, 3) := by decide +kernel
theorem dz_L_code_4 : decode cz_L_code 4 = .ok (.ifCond .ne 6, 3) := by decide +kernel
theorem dz_L_code_7 : decode cz_L_code 7 = .ok (.bipush (-12), 2) := by decide +kernel
theorem dz_L_code_9 : decode cz_L_code 9 = .ok (.ireturn, 1) := by decide +kernel
theorem dz_L_code_10 : decode cz_L_code 10 = .ok (.aload_n 0, 1) := by decide +kernel
theorem dz_L_code_11 : decode cz_L_code 11 = .ok (.iload_n 1, 1) := by decide +kernel
theorem dz_L_code_12 : decode cz_L_code 12 = .ok (.invokevirtual 94, 3) := by decide +kernel
theorem dz_L_code_15 : decode cz_L_code 15 = .ok (.astore_n 2, 1) := by decide +kernel
theorem dz_L_code_16 : decode cz_L_code 16 = .ok (.aload_n 2, 1) := by decide +kernel
theorem dz_L_code_17 : decode cz_L_code 17 = .ok (.ifnonnull 7, 3) := by decide +kernel
theorem dz_L_code_20 : decode cz_L_code 20 = .ok (.iconst (-1), 1) := by decide +kernel
theorem dz_L_code_21 : decode cz_L_code 21 = .ok (.goto 7, 3) := by decide +kernel
theorem dz_L_code_24 : decode cz_L_code 24 = .ok (.aload_n 2, 1) := by decide +kernel
theorem dz_L_code_25 : decode cz_L_code 25 = .ok (.getfield 122, 3) := by decide +kernel
theorem dz_L_code_28 : decode cz_L_code 28 = .ok (.ireturn, 1) := by decide +kernel
theorem dz_L_door_0 : decode cz_L_door 0 = .ok (.aload_n 0, 1) := by decide +kernel
theorem dz_L_door_1 : decode cz_L_door 1 = .ok (.iload_n 1, 1) := by decide +kernel
theorem dz_L_door_2 : decode cz_L_door 2 = .ok (.invokevirtual 69, 3) := by decide +kernel
theorem dz_L_door_5 : decode cz_L_door 5 = .ok (.astore 5, 2) := by decide +kernel
theorem dz_L_door_7 : decode cz_L_door 7 = .ok (.aload 5, 2) := by decide +kernel
theorem dz_L_door_9 : decode cz_L_door 9 = .ok (.ifnonnull 6, 3) := by decide +kernel
theorem dz_L_door_12 : decode cz_L_door 12 = .ok (.bipush (-11), 2) := by decide +kernel
theorem dz_L_door_14 : decode cz_L_door 14 = .ok (.ireturn, 1) := by decide +kernel
theorem dz_L_door_15 : decode cz_L_door 15 = .ok (.iload_n 2, 1) := by decide +kernel
theorem dz_L_door_16 : decode cz_L_door 16 = .ok (.invokestatic 125, 3) := by decide +kernel
theorem dz_L_door_19 : decode cz_L_door 19 = .ok (.ifCond .eq 11, 3) := by decide +kernel
theorem dz_L_door_22 : decode cz_L_door 22 = .ok (.aload_n 0, 1) := by decide +kernel
theorem dz_L_door_23 : decode cz_L_door 23 = .ok (.lload_n 3, 1) := by decide +kernel
theorem dz_L_door_24 : decode cz_L_door 24 = .ok (.invokevirtual 79, 3) := by decide +kernel
theorem dz_L_door_27 : decode cz_L_door 27 = .ok (.ifCond .ne 6, 3) := by decide +kernel
theorem dz_L_door_30 : decode cz_L_door 30 = .ok (.bipush (-12), 2) := by decide +kernel
theorem dz_L_door_32 : decode cz_L_door 32 = .ok (.ireturn, 1) := by decide +kernel
theorem dz_L_door_33 : decode cz_L_door 33 = .ok (.aload_n 0, 1) := by decide +kernel
theorem dz_L_door_34 : decode cz_L_door 34 = .ok (.lload_n 3, 1) := by decide +kernel
theorem dz_L_door_35 : decode cz_L_door 35 = .ok (.invokevirtual 83, 3) := by decide +kernel
theorem dz_L_door_38 : decode cz_L_door 38 = .ok (.aload 5, 2) := by decide +kernel
theorem dz_L_door_40 : decode cz_L_door 40 = .ok (.iload_n 2, 1) := by decide +kernel
theorem dz_L_door_41 : decode cz_L_door 41 = .ok (.invokevirtual 128, 3) := by decide +kernel
theorem dz_L_door_44 : decode cz_L_door 44 = .ok (.ifCond .ne 6, 3) := by decide +kernel
theorem dz_L_door_47 : decode cz_L_door 47 = .ok (.bipush (-13), 2) := by decide +kernel
theorem dz_L_door_49 : decode cz_L_door 49 = .ok (.ireturn, 1) := by decide +kernel
theorem dz_L_door_50 : decode cz_L_door 50 = .ok (.aload 5, 2) := by decide +kernel
theorem dz_L_door_52 : decode cz_L_door 52 = .ok (.iload_n 2, 1) := by decide +kernel
theorem dz_L_door_53 : decode cz_L_door 53 = .ok (.lload_n 3, 1) := by decide +kernel
theorem dz_L_door_54 : decode cz_L_door 54 = .ok (.invokevirtual 131, 3) := by decide +kernel
theorem dz_L_door_57 : decode cz_L_door 57 = .ok (.aload 5, 2) := by decide +kernel
theorem dz_L_door_59 : decode cz_L_door 59 = .ok (.getfield 87, 3) := by decide +kernel
theorem dz_L_door_62 : decode cz_L_door 62 = .ok (.ireturn, 1) := by decide +kernel
theorem dz_L_tick_0 : decode cz_L_tick 0 = .ok (.aload_n 0, 1) := by decide +kernel
theorem dz_L_tick_1 : decode cz_L_tick 1 = .ok (.lload_n 1, 1) := by decide +kernel
theorem dz_L_tick_2 : decode cz_L_tick 2 = .ok (.invokevirtual 79, 3) := by decide +kernel
theorem dz_L_tick_5 : decode cz_L_tick 5 = .ok (.ifCond .ne 6, 3) := by decide +kernel
theorem dz_L_tick_8 : decode cz_L_tick 8 = .ok (.bipush (-12), 2) := by decide +kernel
theorem dz_L_tick_10 : decode cz_L_tick 10 = .ok (.ireturn, 1) := by decide +kernel
theorem dz_L_tick_11 : decode cz_L_tick 11 = .ok (.aload_n 0, 1) := by decide +kernel
theorem dz_L_tick_12 : decode cz_L_tick 12 = .ok (.lload_n 1, 1) := by decide +kernel
theorem dz_L_tick_13 : decode cz_L_tick 13 = .ok (.invokevirtual 83, 3) := by decide +kernel
theorem dz_L_tick_16 : decode cz_L_tick 16 = .ok (.aload_n 0, 1) := by decide +kernel
theorem dz_L_tick_17 : decode cz_L_tick 17 = .ok (.getfield 37, 3) := by decide +kernel
theorem dz_L_tick_20 : decode cz_L_tick 20 = .ok (.istore_n 3, 1) := by decide +kernel
theorem dz_L_tick_21 : decode cz_L_tick 21 = .ok (.aload_n 0, 1) := by decide +kernel
theorem dz_L_tick_22 : decode cz_L_tick 22 = .ok (.iconst 0, 1) := by decide +kernel
theorem dz_L_tick_23 : decode cz_L_tick 23 = .ok (.putfield 37, 3) := by decide +kernel
theorem dz_L_tick_26 : decode cz_L_tick 26 = .ok (.iload_n 3, 1) := by decide +kernel
theorem dz_L_tick_27 : decode cz_L_tick 27 = .ok (.ireturn, 1) := by decide +kernel
theorem dz_L_take_0 : decode cz_L_take 0 = .ok (.aload_n 0, 1) := by decide +kernel
theorem dz_L_take_1 : decode cz_L_take 1 = .ok (.iload_n 1, 1) := by decide +kernel
theorem dz_L_take_2 : decode cz_L_take 2 = .ok (.invokevirtual 69, 3) := by decide +kernel
theorem dz_L_take_5 : decode cz_L_take 5 = .ok (.astore_n 3, 1) := by decide +kernel
theorem dz_L_take_6 : decode cz_L_take 6 = .ok (.aload_n 3, 1) := by decide +kernel
theorem dz_L_take_7 : decode cz_L_take 7 = .ok (.ifnonnull 6, 3) := by decide +kernel
theorem dz_L_take_10 : decode cz_L_take 10 = .ok (.bipush (-11), 2) := by decide +kernel
theorem dz_L_take_12 : decode cz_L_take 12 = .ok (.ireturn, 1) := by decide +kernel
theorem dz_L_take_13 : decode cz_L_take 13 = .ok (.iload_n 2, 1) := by decide +kernel
theorem dz_L_take_14 : decode cz_L_take 14 = .ok (.ifCond .lt 9, 3) := by decide +kernel
theorem dz_L_take_17 : decode cz_L_take 17 = .ok (.iload_n 2, 1) := by decide +kernel
theorem dz_L_take_18 : decode cz_L_take 18 = .ok (.bipush 9, 2) := by decide +kernel
theorem dz_L_take_20 : decode cz_L_take 20 = .ok (.if_icmp .le 6, 3) := by decide +kernel
theorem dz_L_take_23 : decode cz_L_take 23 = .ok (.bipush (-12), 2) := by decide +kernel
theorem dz_L_take_25 : decode cz_L_take 25 = .ok (.ireturn, 1) := by decide +kernel
theorem dz_L_take_26 : decode cz_L_take 26 = .ok (.aload_n 3, 1) := by decide +kernel
theorem dz_L_take_27 : decode cz_L_take 27 = .ok (.invokevirtual 134, 3) := by decide +kernel
theorem dz_L_take_30 : decode cz_L_take 30 = .ok (.ifCond .ne 5, 3) := by decide +kernel
theorem dz_L_take_33 : decode cz_L_take 33 = .ok (.iconst 0, 1) := by decide +kernel
theorem dz_L_take_34 : decode cz_L_take 34 = .ok (.ireturn, 1) := by decide +kernel
theorem dz_L_take_35 : decode cz_L_take 35 = .ok (.aload_n 3, 1) := by decide +kernel
theorem dz_L_take_36 : decode cz_L_take 36 = .ok (.getfield 137, 3) := by decide +kernel
theorem dz_L_take_39 : decode cz_L_take 39 = .ok (.istore 4, 2) := by decide +kernel
theorem dz_L_take_41 : decode cz_L_take 41 = .ok (.aload_n 3, 1) := by decide +kernel
theorem dz_L_take_42 : decode cz_L_take 42 = .ok (.invokevirtual 116, 3) := by decide +kernel
theorem dz_L_take_45 : decode cz_L_take 45 = .ok (.iload 4, 2) := by decide +kernel
theorem dz_L_take_47 : decode cz_L_take 47 = .ok (.ireturn, 1) := by decide +kernel
theorem dz_L_item_0 : decode cz_L_item 0 = .ok (.aload_n 0, 1) := by decide +kernel
theorem dz_L_item_1 : decode cz_L_item 1 = .ok (.iload_n 1, 1) := by decide +kernel
theorem dz_L_item_2 : decode cz_L_item 2 = .ok (.invokevirtual 69, 3) := by decide +kernel
theorem dz_L_item_5 : decode cz_L_item 5 = .ok (.astore_n 2, 1) := by decide +kernel
theorem dz_L_item_6 : decode cz_L_item 6 = .ok (.aload_n 2, 1) := by decide +kernel
theorem dz_L_item_7 : decode cz_L_item 7 = .ok (.ifnonnull 6, 3) := by decide +kernel
theorem dz_L_item_10 : decode cz_L_item 10 = .ok (.bipush (-11), 2) := by decide +kernel
theorem dz_L_item_12 : decode cz_L_item 12 = .ok (.ireturn, 1) := by decide +kernel
theorem dz_L_item_13 : decode cz_L_item 13 = .ok (.aload_n 2, 1) := by decide +kernel
theorem dz_L_item_14 : decode cz_L_item 14 = .ok (.getfield 140, 3) := by decide +kernel
theorem dz_L_item_17 : decode cz_L_item 17 = .ok (.ifCond .eq 11, 3) := by decide +kernel
theorem dz_L_item_20 : decode cz_L_item 20 = .ok (.aload_n 2, 1) := by decide +kernel
theorem dz_L_item_21 : decode cz_L_item 21 = .ok (.getfield 137, 3) := by decide +kernel
theorem dz_L_item_24 : decode cz_L_item 24 = .ok (.ineg, 1) := by decide +kernel
theorem dz_L_item_25 : decode cz_L_item 25 = .ok (.goto 7, 3) := by decide +kernel
theorem dz_L_item_28 : decode cz_L_item 28 = .ok (.aload_n 2, 1) := by decide +kernel
theorem dz_L_item_29 : decode cz_L_item 29 = .ok (.getfield 137, 3) := by decide +kernel
theorem dz_L_item_32 : decode cz_L_item 32 = .ok (.ireturn, 1) := by decide +kernel
theorem dz_L_freed_0 : decode cz_L_freed 0 = .ok (.iload_n 1, 1) := by decide +kernel
theorem dz_L_freed_1 : decode cz_L_freed 1 = .ok (.ifCond .lt 26, 3) := by decide +kernel
theorem dz_L_freed_4 : decode cz_L_freed 4 = .ok (.iload_n 1, 1) := by decide +kernel
theorem dz_L_freed_5 : decode cz_L_freed 5 = .ok (.aload_n 0, 1) := by decide +kernel
theorem dz_L_freed_6 : decode cz_L_freed 6 = .ok (.getfield 30, 3) := by decide +kernel
theorem dz_L_freed_9 : decode cz_L_freed 9 = .ok (.if_icmp .ge 18, 3) := by decide +kernel
theorem dz_L_freed_12 : decode cz_L_freed 12 = .ok (.iload_n 1, 1) := by decide +kernel
theorem dz_L_freed_13 : decode cz_L_freed 13 = .ok (.bipush 100, 2) := by decide +kernel
theorem dz_L_freed_15 : decode cz_L_freed 15 = .ok (.if_icmp .ge 12, 3) := by decide +kernel
theorem dz_L_freed_18 : decode cz_L_freed 18 = .ok (.aload_n 0, 1) := by decide +kernel
theorem dz_L_freed_19 : decode cz_L_freed 19 = .ok (.getfield 26, 3) := by decide +kernel
theorem dz_L_freed_22 : decode cz_L_freed 22 = .ok (.iload_n 1, 1) := by decide +kernel
theorem dz_L_freed_23 : decode cz_L_freed 23 = .ok (.iaload, 1) := by decide +kernel
theorem dz_L_freed_24 : decode cz_L_freed 24 = .ok (.goto 4, 3) := by decide +kernel
theorem dz_L_freed_27 : decode cz_L_freed 27 = .ok (.iconst 0, 1) := by decide +kernel
theorem dz_L_freed_28 : decode cz_L_freed 28 = .ok (.ireturn, 1) := by decide +kernel
theorem dz_L_isSize_0 : decode cz_L_isSize 0 = .ok (.iload_n 0, 1) := by decide +kernel
theorem dz_L_isSize_1 : decode cz_L_isSize 1 = .ok (.iconst 1, 1) := by decide +kernel
theorem dz_L_isSize_2 : decode cz_L_isSize 2 = .ok (.if_icmp .lt 12, 3) := by decide +kernel
theorem dz_L_isSize_5 : decode cz_L_isSize 5 = .ok (.iload_n 0, 1) := by decide +kernel
theorem dz_L_isSize_6 : decode cz_L_isSize 6 = .ok (.iconst 5, 1) := by decide +kernel
theorem dz_L_isSize_7 : decode cz_L_isSize 7 = .ok (.if_icmp .gt 7, 3) := by decide +kernel
theorem dz_L_isSize_10 : decode cz_L_isSize 10 = .ok (.iconst 1, 1) := by decide +kernel
theorem dz_L_isSize_11 : decode cz_L_isSize 11 = .ok (.goto 4, 3) := by decide +kernel
theorem dz_L_isSize_14 : decode cz_L_isSize 14 = .ok (.iconst 0, 1) := by decide +kernel
theorem dz_L_isSize_15 : decode cz_L_isSize 15 = .ok (.ireturn, 1) := by decide +kernel
theorem dz_L_isItem_0 : decode cz_L_isItem 0 = .ok (.iload_n 0, 1) := by decide +kernel
theorem dz_L_isItem_1 : decode cz_L_isItem 1 = .ok (.iconst 1, 1) := by decide +kernel
theorem dz_L_isItem_2 : decode cz_L_isItem 2 = .ok (.if_icmp .lt 14, 3) := by decide +kernel
theorem dz_L_isItem_5 : decode cz_L_isItem 5 = .ok (.iload_n 0, 1) := by decide +kernel
theorem dz_L_isItem_6 : decode cz_L_isItem 6 = .ok (.sipush 9999, 3) := by decide +kernel
theorem dz_L_isItem_9 : decode cz_L_isItem 9 = .ok (.if_icmp .gt 7, 3) := by decide +kernel
theorem dz_L_isItem_12 : decode cz_L_isItem 12 = .ok (.iconst 1, 1) := by decide +kernel
theorem dz_L_isItem_13 : decode cz_L_isItem 13 = .ok (.goto 4, 3) := by decide +kernel
theorem dz_L_isItem_16 : decode cz_L_isItem 16 = .ok (.iconst 0, 1) := by decide +kernel
theorem dz_L_isItem_17 : decode cz_L_isItem 17 = .ok (.ireturn, 1) := by decide +kernel
theorem dz_L_isCode_0 : decode cz_L_isCode 0 = .ok (.iload_n 0, 1) := by decide +kernel
theorem dz_L_isCode_1 : decode cz_L_isCode 1 = .ok (.ifCond .lt 13, 3) := by decide +kernel
theorem dz_L_isCode_4 : decode cz_L_isCode 4 = .ok (.iload_n 0, 1) := by decide +kernel
theorem dz_L_isCode_5 : decode cz_L_isCode 5 = .ok (.ldc 144, 2) := by decide +kernel
theorem dz_L_isCode_7 : decode cz_L_isCode 7 = .ok (.if_icmp .gt 7, 3) := by decide +kernel
theorem dz_L_isCode_10 : decode cz_L_isCode 10 = .ok (.iconst 1, 1) := by decide +kernel
theorem dz_L_isCode_11 : decode cz_L_isCode 11 = .ok (.goto 4, 3) := by decide +kernel
theorem dz_L_isCode_14 : decode cz_L_isCode 14 = .ok (.iconst 0, 1) := by decide +kernel
theorem dz_L_isCode_15 : decode cz_L_isCode 15 = .ok (.ireturn, 1) := by decide +kernel
theorem dz_L_isTime_0 : decode cz_L_isTime 0 = .ok (.lload_n 1, 1) := by decide +kernel
theorem dz_L_isTime_1 : decode cz_L_isTime 1 = .ok (.aload_n 0, 1) := by decide +kernel
theorem dz_L_isTime_2 : decode cz_L_isTime 2 = .ok (.getfield 33, 3) := by decide +kernel
theorem dz_L_isTime_5 : decode cz_L_isTime 5 = .ok (.lcmp, 1) := by decide +kernel
theorem dz_L_isTime_6 : decode cz_L_isTime 6 = .ok (.ifCond .lt 15, 3) := by decide +kernel
theorem dz_L_isTime_9 : decode cz_L_isTime 9 = .ok (.lload_n 1, 1) := by decide +kernel
theorem dz_L_isTime_10 : decode cz_L_isTime 10 = .ok (.ldc2_w 63, 3) := by decide +kernel
theorem dz_L_isTime_13 : decode cz_L_isTime 13 = .ok (.lcmp, 1) := by decide +kernel
theorem dz_L_isTime_14 : decode cz_L_isTime 14 = .ok (.ifCond .gt 7, 3) := by decide +kernel
theorem dz_L_isTime_17 : decode cz_L_isTime 17 = .ok (.iconst 1, 1) := by decide +kernel
theorem dz_L_isTime_18 : decode cz_L_isTime 18 = .ok (.goto 4, 3) := by decide +kernel
theorem dz_L_isTime_21 : decode cz_L_isTime 21 = .ok (.iconst 0, 1) := by decide +kernel
theorem dz_L_isTime_22 : decode cz_L_isTime 22 = .ok (.ireturn, 1) := by decide +kernel
theorem dz_L_boxAt_0 : decode cz_L_boxAt 0 = .ok (.iload_n 1, 1) := by decide +kernel
theorem dz_L_boxAt_1 : decode cz_L_boxAt 1 = .ok (.iconst 1, 1) := by decide +kernel
theorem dz_L_boxAt_2 : decode cz_L_boxAt 2 = .ok (.if_icmp .lt 28, 3) := by decide +kernel
theorem dz_L_boxAt_5 : decode cz_L_boxAt 5 = .ok (.iload_n 1, 1) := by decide +kernel
theorem dz_L_boxAt_6 : decode cz_L_boxAt 6 = .ok (.aload_n 0, 1) := by decide +kernel
theorem dz_L_boxAt_7 : decode cz_L_boxAt 7 = .ok (.getfield 15, 3) := by decide +kernel
theorem dz_L_boxAt_10 : decode cz_L_boxAt 10 = .ok (.if_icmp .gt 20, 3) := by decide +kernel
theorem dz_L_boxAt_13 : decode cz_L_boxAt 13 = .ok (.iload_n 1, 1) := by decide +kernel
theorem dz_L_boxAt_14 : decode cz_L_boxAt 14 = .ok (.bipush 60, 2) := by decide +kernel
theorem dz_L_boxAt_16 : decode cz_L_boxAt 16 = .ok (.if_icmp .gt 14, 3) := by decide +kernel
theorem dz_L_boxAt_19 : decode cz_L_boxAt 19 = .ok (.aload_n 0, 1) := by decide +kernel
theorem dz_L_boxAt_20 : decode cz_L_boxAt 20 = .ok (.getfield 11, 3) := by decide +kernel
theorem dz_L_boxAt_23 : decode cz_L_boxAt 23 = .ok (.iload_n 1, 1) := by decide +kernel
theorem dz_L_boxAt_24 : decode cz_L_boxAt 24 = .ok (.iconst 1, 1) := by decide +kernel
theorem dz_L_boxAt_25 : decode cz_L_boxAt 25 = .ok (.isub, 1) := by decide +kernel
theorem dz_L_boxAt_26 : decode cz_L_boxAt 26 = .ok (.aaload, 1) := by decide +kernel
theorem dz_L_boxAt_27 : decode cz_L_boxAt 27 = .ok (.goto 4, 3) := by decide +kernel
theorem dz_L_boxAt_30 : decode cz_L_boxAt 30 = .ok (.aconst_null, 1) := by decide +kernel
theorem dz_L_boxAt_31 : decode cz_L_boxAt 31 = .ok (.areturn, 1) := by decide +kernel
theorem dz_L_boxOfItem_0 : decode cz_L_boxOfItem 0 = .ok (.iconst 1, 1) := by decide +kernel
theorem dz_L_boxOfItem_1 : decode cz_L_boxOfItem 1 = .ok (.istore_n 2, 1) := by decide +kernel
theorem dz_L_boxOfItem_2 : decode cz_L_boxOfItem 2 = .ok (.iload_n 2, 1) := by decide +kernel
theorem dz_L_boxOfItem_3 : decode cz_L_boxOfItem 3 = .ok (.aload_n 0, 1) := by decide +kernel
theorem dz_L_boxOfItem_4 : decode cz_L_boxOfItem 4 = .ok (.getfield 15, 3) := by decide +kernel
theorem dz_L_boxOfItem_7 : decode cz_L_boxOfItem 7 = .ok (.if_icmp .gt 29, 3) := by decide +kernel
theorem dz_L_boxOfItem_10 : decode cz_L_boxOfItem 10 = .ok (.aload_n 0, 1) := by decide +kernel
theorem dz_L_boxOfItem_11 : decode cz_L_boxOfItem 11 = .ok (.iload_n 2, 1) := by decide +kernel
theorem dz_L_boxOfItem_12 : decode cz_L_boxOfItem 12 = .ok (.invokevirtual 69, 3) := by decide +kernel
theorem dz_L_boxOfItem_15 : decode cz_L_boxOfItem 15 = .ok (.astore_n 3, 1) := by decide +kernel
theorem dz_L_boxOfItem_16 : decode cz_L_boxOfItem 16 = .ok (.aload_n 3, 1) := by decide +kernel
theorem dz_L_boxOfItem_17 : decode cz_L_boxOfItem 17 = .ok (.ifnull 13, 3) := by decide +kernel
theorem dz_L_boxOfItem_20 : decode cz_L_boxOfItem 20 = .ok (.aload_n 3, 1) := by decide +kernel
theorem dz_L_boxOfItem_21 : decode cz_L_boxOfItem 21 = .ok (.getfield 137, 3) := by decide +kernel
theorem dz_L_boxOfItem_24 : decode cz_L_boxOfItem 24 = .ok (.iload_n 1, 1) := by decide +kernel
theorem dz_L_boxOfItem_25 : decode cz_L_boxOfItem 25 = .ok (.if_icmp .ne 5, 3) := by decide +kernel
theorem dz_L_boxOfItem_28 : decode cz_L_boxOfItem 28 = .ok (.aload_n 3, 1) := by decide +kernel
theorem dz_L_boxOfItem_29 : decode cz_L_boxOfItem 29 = .ok (.areturn, 1) := by decide +kernel
theorem dz_L_boxOfItem_30 : decode cz_L_boxOfItem 30 = .ok (.iinc 2 1, 3) := by decide +kernel
theorem dz_L_boxOfItem_33 : decode cz_L_boxOfItem 33 = .ok (.goto (-31), 3) := by decide +kernel
theorem dz_L_boxOfItem_36 : decode cz_L_boxOfItem 36 = .ok (.aconst_null, 1) := by decide +kernel
theorem dz_L_boxOfItem_37 : decode cz_L_boxOfItem 37 = .ok (.areturn, 1) := by decide +kernel
theorem dz_L_boxNumberOfCode_0 : decode cz_L_boxNumberOfCode 0 = .ok (.iconst 1, 1) := by decide +kernel
theorem dz_L_boxNumberOfCode_1 : decode cz_L_boxNumberOfCode 1 = .ok (.istore_n 2, 1) := by decide +kernel
theorem dz_L_boxNumberOfCode_2 : decode cz_L_boxNumberOfCode 2 = .ok (.iload_n 2, 1) := by decide +kernel
theorem dz_L_boxNumberOfCode_3 : decode cz_L_boxNumberOfCode 3 = .ok (.aload_n 0, 1) := by decide +kernel
theorem dz_L_boxNumberOfCode_4 : decode cz_L_boxNumberOfCode 4 = .ok (.getfield 15, 3) := by decide +kernel
theorem dz_L_boxNumberOfCode_7 : decode cz_L_boxNumberOfCode 7 = .ok (.if_icmp .gt 36, 3) := by decide +kernel
theorem dz_L_boxNumberOfCode_10 : decode cz_L_boxNumberOfCode 10 = .ok (.aload_n 0, 1) := by decide +kernel
theorem dz_L_boxNumberOfCode_11 : decode cz_L_boxNumberOfCode 11 = .ok (.iload_n 2, 1) := by decide +kernel
theorem dz_L_boxNumberOfCode_12 : decode cz_L_boxNumberOfCode 12 = .ok (.invokevirtual 69, 3) := by decide +kernel
theorem dz_L_boxNumberOfCode_15 : decode cz_L_boxNumberOfCode 15 = .ok (.astore_n 3, 1) := by decide +kernel
theorem dz_L_boxNumberOfCode_16 : decode cz_L_boxNumberOfCode 16 = .ok (.aload_n 3, 1) := by decide +kernel
theorem dz_L_boxNumberOfCode_17 : decode cz_L_boxNumberOfCode 17 = .ok (.ifnull 20, 3) := by decide +kernel
theorem dz_L_boxNumberOfCode_20 : decode cz_L_boxNumberOfCode 20 = .ok (.aload_n 3, 1) := by decide +kernel
theorem dz_L_boxNumberOfCode_21 : decode cz_L_boxNumberOfCode 21 = .ok (.invokevirtual 145, 3) := by decide +kernel
theorem dz_L_boxNumberOfCode_24 : decode cz_L_boxNumberOfCode 24 = .ok (.ifCond .eq 13, 3) := by decide +kernel
theorem dz_L_boxNumberOfCode_27 : decode cz_L_boxNumberOfCode 27 = .ok (.aload_n 3, 1) := by decide +kernel
theorem dz_L_boxNumberOfCode_28 : decode cz_L_boxNumberOfCode 28 = .ok (.getfield 122, 3) := by decide +kernel
theorem dz_L_boxNumberOfCode_31 : decode cz_L_boxNumberOfCode 31 = .ok (.iload_n 1, 1) := by decide +kernel
theorem dz_L_boxNumberOfCode_32 : decode cz_L_boxNumberOfCode 32 = .ok (.if_icmp .ne 5, 3) := by decide +kernel
theorem dz_L_boxNumberOfCode_35 : decode cz_L_boxNumberOfCode 35 = .ok (.iload_n 2, 1) := by decide +kernel
theorem dz_L_boxNumberOfCode_36 : decode cz_L_boxNumberOfCode 36 = .ok (.ireturn, 1) := by decide +kernel
theorem dz_L_boxNumberOfCode_37 : decode cz_L_boxNumberOfCode 37 = .ok (.iinc 2 1, 3) := by decide +kernel
theorem dz_L_boxNumberOfCode_40 : decode cz_L_boxNumberOfCode 40 = .ok (.goto (-38), 3) := by decide +kernel
theorem dz_L_boxNumberOfCode_43 : decode cz_L_boxNumberOfCode 43 = .ok (.iconst 0, 1) := by decide +kernel
theorem dz_L_boxNumberOfCode_44 : decode cz_L_boxNumberOfCode 44 = .ok (.ireturn, 1) := by decide +kernel
theorem dz_L_smallestUnused_0 : decode cz_L_smallestUnused 0 = .ok (.iconst 0, 1) := by decide +kernel
theorem dz_L_smallestUnused_1 : decode cz_L_smallestUnused 1 = .ok (.istore_n 2, 1) := by decide +kernel
theorem dz_L_smallestUnused_2 : decode cz_L_smallestUnused 2 = .ok (.bipush 6, 2) := by decide +kernel
theorem dz_L_smallestUnused_4 : decode cz_L_smallestUnused 4 = .ok (.istore_n 3, 1) := by decide +kernel
theorem dz_L_smallestUnused_5 : decode cz_L_smallestUnused 5 = .ok (.iconst 1, 1) := by decide +kernel
theorem dz_L_smallestUnused_6 : decode cz_L_smallestUnused 6 = .ok (.istore 4, 2) := by decide +kernel
theorem dz_L_smallestUnused_8 : decode cz_L_smallestUnused 8 = .ok (.iload 4, 2) := by decide +kernel
theorem dz_L_smallestUnused_10 : decode cz_L_smallestUnused 10 = .ok (.aload_n 0, 1) := by decide +kernel
theorem dz_L_smallestUnused_11 : decode cz_L_smallestUnused 11 = .ok (.getfield 15, 3) := by decide +kernel
theorem dz_L_smallestUnused_14 : decode cz_L_smallestUnused 14 = .ok (.if_icmp .gt 57, 3) := by decide +kernel
theorem dz_L_smallestUnused_17 : decode cz_L_smallestUnused 17 = .ok (.aload_n 0, 1) := by decide +kernel
theorem dz_L_smallestUnused_18 : decode cz_L_smallestUnused 18 = .ok (.iload 4, 2) := by decide +kernel
theorem dz_L_smallestUnused_20 : decode cz_L_smallestUnused 20 = .ok (.invokevirtual 69, 3) := by decide +kernel
theorem dz_L_smallestUnused_23 : decode cz_L_smallestUnused 23 = .ok (.astore 5, 2) := by decide +kernel
theorem dz_L_smallestUnused_25 : decode cz_L_smallestUnused 25 = .ok (.aload 5, 2) := by decide +kernel
theorem dz_L_smallestUnused_27 : decode cz_L_smallestUnused 27 = .ok (.ifnull 38, 3) := by decide +kernel
theorem dz_L_smallestUnused_30 : decode cz_L_smallestUnused 30 = .ok (.aload 5, 2) := by decide +kernel
theorem dz_L_smallestUnused_32 : decode cz_L_smallestUnused 32 = .ok (.invokevirtual 148, 3) := by decide +kernel
theorem dz_L_smallestUnused_35 : decode cz_L_smallestUnused 35 = .ok (.ifCond .eq 30, 3) := by decide +kernel
theorem dz_L_smallestUnused_38 : decode cz_L_smallestUnused 38 = .ok (.aload 5, 2) := by decide +kernel
theorem dz_L_smallestUnused_40 : decode cz_L_smallestUnused 40 = .ok (.getfield 151, 3) := by decide +kernel
theorem dz_L_smallestUnused_43 : decode cz_L_smallestUnused 43 = .ok (.iload_n 1, 1) := by decide +kernel
theorem dz_L_smallestUnused_44 : decode cz_L_smallestUnused 44 = .ok (.if_icmp .lt 21, 3) := by decide +kernel
theorem dz_L_smallestUnused_47 : decode cz_L_smallestUnused 47 = .ok (.aload 5, 2) := by decide +kernel
theorem dz_L_smallestUnused_49 : decode cz_L_smallestUnused 49 = .ok (.getfield 151, 3) := by decide +kernel
theorem dz_L_smallestUnused_52 : decode cz_L_smallestUnused 52 = .ok (.iload_n 3, 1) := by decide +kernel
theorem dz_L_smallestUnused_53 : decode cz_L_smallestUnused 53 = .ok (.if_icmp .ge 12, 3) := by decide +kernel
theorem dz_L_smallestUnused_56 : decode cz_L_smallestUnused 56 = .ok (.iload 4, 2) := by decide +kernel
theorem dz_L_smallestUnused_58 : decode cz_L_smallestUnused 58 = .ok (.istore_n 2, 1) := by decide +kernel
theorem dz_L_smallestUnused_59 : decode cz_L_smallestUnused 59 = .ok (.aload 5, 2) := by decide +kernel
theorem dz_L_smallestUnused_61 : decode cz_L_smallestUnused 61 = .ok (.getfield 151, 3) := by decide +kernel
theorem dz_L_smallestUnused_64 : decode cz_L_smallestUnused 64 = .ok (.istore_n 3, 1) := by decide +kernel
theorem dz_L_smallestUnused_65 : decode cz_L_smallestUnused 65 = .ok (.iinc 4 1, 3) := by decide +kernel
theorem dz_L_smallestUnused_68 : decode cz_L_smallestUnused 68 = .ok (.goto (-60), 3) := by decide +kernel
theorem dz_L_smallestUnused_71 : decode cz_L_smallestUnused 71 = .ok (.iload_n 2, 1) := by decide +kernel
theorem dz_L_smallestUnused_72 : decode cz_L_smallestUnused 72 = .ok (.ireturn, 1) := by decide +kernel
theorem dz_L_wantedCode_0 : decode cz_L_wantedCode 0 = .ok (.iconst 0, 1) := by decide +kernel
theorem dz_L_wantedCode_1 : decode cz_L_wantedCode 1 = .ok (.istore_n 1, 1) := by decide +kernel
theorem dz_L_wantedCode_2 : decode cz_L_wantedCode 2 = .ok (.iload_n 1, 1) := by decide +kernel
theorem dz_L_wantedCode_3 : decode cz_L_wantedCode 3 = .ok (.aload_n 0, 1) := by decide +kernel
theorem dz_L_wantedCode_4 : decode cz_L_wantedCode 4 = .ok (.getfield 22, 3) := by decide +kernel
theorem dz_L_wantedCode_7 : decode cz_L_wantedCode 7 = .ok (.invokevirtual 59, 3) := by decide +kernel
theorem dz_L_wantedCode_10 : decode cz_L_wantedCode 10 = .ok (.if_icmp .ge 38, 3) := by decide +kernel
theorem dz_L_wantedCode_13 : decode cz_L_wantedCode 13 = .ok (.aload_n 0, 1) := by decide +kernel
theorem dz_L_wantedCode_14 : decode cz_L_wantedCode 14 = .ok (.getfield 22, 3) := by decide +kernel
theorem dz_L_wantedCode_17 : decode cz_L_wantedCode 17 = .ok (.iload_n 1, 1) := by decide +kernel
theorem dz_L_wantedCode_18 : decode cz_L_wantedCode 18 = .ok (.invokevirtual 154, 3) := by decide +kernel
theorem dz_L_wantedCode_21 : decode cz_L_wantedCode 21 = .ok (.istore_n 2, 1) := by decide +kernel
theorem dz_L_wantedCode_22 : decode cz_L_wantedCode 22 = .ok (.aload_n 0, 1) := by decide +kernel
theorem dz_L_wantedCode_23 : decode cz_L_wantedCode 23 = .ok (.iload_n 2, 1) := by decide +kernel
theorem dz_L_wantedCode_24 : decode cz_L_wantedCode 24 = .ok (.invokevirtual 110, 3) := by decide +kernel
theorem dz_L_wantedCode_27 : decode cz_L_wantedCode 27 = .ok (.ifCond .ne 15, 3) := by decide +kernel
theorem dz_L_wantedCode_30 : decode cz_L_wantedCode 30 = .ok (.aload_n 0, 1) := by decide +kernel
theorem dz_L_wantedCode_31 : decode cz_L_wantedCode 31 = .ok (.getfield 22, 3) := by decide +kernel
theorem dz_L_wantedCode_34 : decode cz_L_wantedCode 34 = .ok (.iload_n 1, 1) := by decide +kernel
theorem dz_L_wantedCode_35 : decode cz_L_wantedCode 35 = .ok (.iconst 1, 1) := by decide +kernel
theorem dz_L_wantedCode_36 : decode cz_L_wantedCode 36 = .ok (.iadd, 1) := by decide +kernel
theorem dz_L_wantedCode_37 : decode cz_L_wantedCode 37 = .ok (.invokevirtual 157, 3) := by decide +kernel
theorem dz_L_wantedCode_40 : decode cz_L_wantedCode 40 = .ok (.iload_n 2, 1) := by decide +kernel
theorem dz_L_wantedCode_41 : decode cz_L_wantedCode 41 = .ok (.ireturn, 1) := by decide +kernel
theorem dz_L_wantedCode_42 : decode cz_L_wantedCode 42 = .ok (.iinc 1 1, 3) := by decide +kernel
theorem dz_L_wantedCode_45 : decode cz_L_wantedCode 45 = .ok (.goto (-43), 3) := by decide +kernel
theorem dz_L_wantedCode_48 : decode cz_L_wantedCode 48 = .ok (.iconst (-1), 1) := by decide +kernel
theorem dz_L_wantedCode_49 : decode cz_L_wantedCode 49 = .ok (.ireturn, 1) := by decide +kernel
theorem dz_L_countWrongTry_0 : decode cz_L_countWrongTry 0 = .ok (.aload_n 0, 1) := by decide +kernel
theorem dz_L_countWrongTry_1 : decode cz_L_countWrongTry 1 = .ok (.dup, 1) := by decide +kernel
theorem dz_L_countWrongTry_2 : decode cz_L_countWrongTry 2 = .ok (.getfield 40, 3) := by decide +kernel
theorem dz_L_countWrongTry_5 : decode cz_L_countWrongTry 5 = .ok (.iconst 1, 1) := by decide +kernel
theorem dz_L_countWrongTry_6 : decode cz_L_countWrongTry 6 = .ok (.iadd, 1) := by decide +kernel
theorem dz_L_countWrongTry_7 : decode cz_L_countWrongTry 7 = .ok (.putfield 40, 3) := by decide +kernel
theorem dz_L_countWrongTry_10 : decode cz_L_countWrongTry 10 = .ok (.aload_n 0, 1) := by decide +kernel
theorem dz_L_countWrongTry_11 : decode cz_L_countWrongTry 11 = .ok (.getfield 40, 3) := by decide +kernel
theorem dz_L_countWrongTry_14 : decode cz_L_countWrongTry 14 = .ok (.iconst 3, 1) := by decide +kernel
theorem dz_L_countWrongTry_15 : decode cz_L_countWrongTry 15 = .ok (.if_icmp .lt 17, 3) := by decide +kernel
theorem dz_L_countWrongTry_18 : decode cz_L_countWrongTry 18 = .ok (.aload_n 0, 1) := by decide +kernel
theorem dz_L_countWrongTry_19 : decode cz_L_countWrongTry 19 = .ok (.iconst 0, 1) := by decide +kernel
theorem dz_L_countWrongTry_20 : decode cz_L_countWrongTry 20 = .ok (.putfield 40, 3) := by decide +kernel
theorem dz_L_countWrongTry_23 : decode cz_L_countWrongTry 23 = .ok (.aload_n 0, 1) := by decide +kernel
theorem dz_L_countWrongTry_24 : decode cz_L_countWrongTry 24 = .ok (.lload_n 1, 1) := by decide +kernel
theorem dz_L_countWrongTry_25 : decode cz_L_countWrongTry 25 = .ok (.ldc2_w 160, 3) := by decide +kernel
theorem dz_L_countWrongTry_28 : decode cz_L_countWrongTry 28 = .ok (.ladd, 1) := by decide +kernel
theorem dz_L_countWrongTry_29 : decode cz_L_countWrongTry 29 = .ok (.putfield 43, 3) := by decide +kernel
theorem dz_L_countWrongTry_32 : decode cz_L_countWrongTry 32 = .ok (.return_, 1) := by decide +kernel
theorem dz_L_passTo_0 : decode cz_L_passTo 0 = .ok (.aload_n 0, 1) := by decide +kernel
theorem dz_L_passTo_1 : decode cz_L_passTo 1 = .ok (.lload_n 1, 1) := by decide +kernel
theorem dz_L_passTo_2 : decode cz_L_passTo 2 = .ok (.putfield 33, 3) := by decide +kernel
theorem dz_L_passTo_5 : decode cz_L_passTo 5 = .ok (.iconst 1, 1) := by decide +kernel
theorem dz_L_passTo_6 : decode cz_L_passTo 6 = .ok (.istore_n 3, 1) := by decide +kernel
theorem dz_L_passTo_7 : decode cz_L_passTo 7 = .ok (.iload_n 3, 1) := by decide +kernel
theorem dz_L_passTo_8 : decode cz_L_passTo 8 = .ok (.aload_n 0, 1) := by decide +kernel
theorem dz_L_passTo_9 : decode cz_L_passTo 9 = .ok (.getfield 15, 3) := by decide +kernel
theorem dz_L_passTo_12 : decode cz_L_passTo 12 = .ok (.if_icmp .gt 50, 3) := by decide +kernel
theorem dz_L_passTo_15 : decode cz_L_passTo 15 = .ok (.aload_n 0, 1) := by decide +kernel
theorem dz_L_passTo_16 : decode cz_L_passTo 16 = .ok (.iload_n 3, 1) := by decide +kernel
theorem dz_L_passTo_17 : decode cz_L_passTo 17 = .ok (.invokevirtual 69, 3) := by decide +kernel
theorem dz_L_passTo_20 : decode cz_L_passTo 20 = .ok (.astore 4, 2) := by decide +kernel
theorem dz_L_passTo_22 : decode cz_L_passTo 22 = .ok (.aload 4, 2) := by decide +kernel
theorem dz_L_passTo_24 : decode cz_L_passTo 24 = .ok (.ifnull 32, 3) := by decide +kernel
theorem dz_L_passTo_27 : decode cz_L_passTo 27 = .ok (.aload 4, 2) := by decide +kernel
theorem dz_L_passTo_29 : decode cz_L_passTo 29 = .ok (.lload_n 1, 1) := by decide +kernel
theorem dz_L_passTo_30 : decode cz_L_passTo 30 = .ok (.invokevirtual 162, 3) := by decide +kernel
theorem dz_L_passTo_33 : decode cz_L_passTo 33 = .ok (.ifCond .eq 8, 3) := by decide +kernel
theorem dz_L_passTo_36 : decode cz_L_passTo 36 = .ok (.aload_n 0, 1) := by decide +kernel
theorem dz_L_passTo_37 : decode cz_L_passTo 37 = .ok (.iload_n 3, 1) := by decide +kernel
theorem dz_L_passTo_38 : decode cz_L_passTo 38 = .ok (.invokevirtual 165, 3) := by decide +kernel
theorem dz_L_passTo_41 : decode cz_L_passTo 41 = .ok (.aload_n 0, 1) := by decide +kernel
theorem dz_L_passTo_42 : decode cz_L_passTo 42 = .ok (.dup, 1) := by decide +kernel
theorem dz_L_passTo_43 : decode cz_L_passTo 43 = .ok (.getfield 37, 3) := by decide +kernel
theorem dz_L_passTo_46 : decode cz_L_passTo 46 = .ok (.aload 4, 2) := by decide +kernel
theorem dz_L_passTo_48 : decode cz_L_passTo 48 = .ok (.lload_n 1, 1) := by decide +kernel
theorem dz_L_passTo_49 : decode cz_L_passTo 49 = .ok (.invokevirtual 168, 3) := by decide +kernel
theorem dz_L_passTo_52 : decode cz_L_passTo 52 = .ok (.iadd, 1) := by decide +kernel
theorem dz_L_passTo_53 : decode cz_L_passTo 53 = .ok (.putfield 37, 3) := by decide +kernel
theorem dz_L_passTo_56 : decode cz_L_passTo 56 = .ok (.iinc 3 1, 3) := by decide +kernel
theorem dz_L_passTo_59 : decode cz_L_passTo 59 = .ok (.goto (-52), 3) := by decide +kernel
theorem dz_L_passTo_62 : decode cz_L_passTo 62 = .ok (.return_, 1) := by decide +kernel
theorem dz_L_noteFreed_0 : decode cz_L_noteFreed 0 = .ok (.aload_n 0, 1) := by decide +kernel
theorem dz_L_noteFreed_1 : decode cz_L_noteFreed 1 = .ok (.getfield 30, 3) := by decide +kernel
theorem dz_L_noteFreed_4 : decode cz_L_noteFreed 4 = .ok (.bipush 100, 2) := by decide +kernel
theorem dz_L_noteFreed_6 : decode cz_L_noteFreed 6 = .ok (.if_icmp .ge 23, 3) := by decide +kernel
theorem dz_L_noteFreed_9 : decode cz_L_noteFreed 9 = .ok (.aload_n 0, 1) := by decide +kernel
theorem dz_L_noteFreed_10 : decode cz_L_noteFreed 10 = .ok (.getfield 26, 3) := by decide +kernel
theorem dz_L_noteFreed_13 : decode cz_L_noteFreed 13 = .ok (.aload_n 0, 1) := by decide +kernel
theorem dz_L_noteFreed_14 : decode cz_L_noteFreed 14 = .ok (.getfield 30, 3) := by decide +kernel
theorem dz_L_noteFreed_17 : decode cz_L_noteFreed 17 = .ok (.iload_n 1, 1) := by decide +kernel
theorem dz_L_noteFreed_18 : decode cz_L_noteFreed 18 = .ok (.iastore, 1) := by decide +kernel
theorem dz_L_noteFreed_19 : decode cz_L_noteFreed 19 = .ok (.aload_n 0, 1) := by decide +kernel
theorem dz_L_noteFreed_20 : decode cz_L_noteFreed 20 = .ok (.dup, 1) := by decide +kernel
theorem dz_L_noteFreed_21 : decode cz_L_noteFreed 21 = .ok (.getfield 30, 3) := by decide +kernel
theorem dz_L_noteFreed_24 : decode cz_L_noteFreed 24 = .ok (.iconst 1, 1) := by decide +kernel
theorem dz_L_noteFreed_25 : decode cz_L_noteFreed 25 = .ok (.iadd, 1) := by decide +kernel
theorem dz_L_noteFreed_26 : decode cz_L_noteFreed 26 = .ok (.putfield 30, 3) := by decide +kernel
theorem dz_L_noteFreed_29 : decode cz_L_noteFreed 29 = .ok (.return_, 1) := by decide +kernel
theorem dz_B_init_0 : decode cz_B_init 0 = .ok (.aload_n 0, 1) := by decide +kernel
theorem dz_B_init_1 : decode cz_B_init 1 = .ok (.invokespecial 3, 3) := by decide +kernel
theorem dz_B_init_4 : decode cz_B_init 4 = .ok (.aload_n 0, 1) := by decide +kernel
theorem dz_B_init_5 : decode cz_B_init 5 = .ok (.iconst 0, 1) := by decide +kernel
theorem dz_B_init_6 : decode cz_B_init 6 = .ok (.putfield 9, 3) := by decide +kernel
theorem dz_B_init_9 : decode cz_B_init 9 = .ok (.aload_n 0, 1) := by decide +kernel
theorem dz_B_init_10 : decode cz_B_init 10 = .ok (.lconst 0, 1) := by decide +kernel
theorem dz_B_init_11 : decode cz_B_init 11 = .ok (.putfield 15, 3) := by decide +kernel
theorem dz_B_init_14 : decode cz_B_init 14 = .ok (.aload_n 0, 1) := by decide +kernel
theorem dz_B_init_15 : decode cz_B_init 15 = .ok (.iconst 0, 1) := by decide +kernel
theorem dz_B_init_16 : decode cz_B_init 16 = .ok (.putfield 19, 3) := by decide +kernel
theorem dz_B_init_19 : decode cz_B_init 19 = .ok (.aload_n 0, 1) := by decide +kernel
theorem dz_B_init_20 : decode cz_B_init 20 = .ok (.iconst 0, 1) := by decide +kernel
theorem dz_B_init_21 : decode cz_B_init 21 = .ok (.putfield 23, 3) := by decide +kernel
theorem dz_B_init_24 : decode cz_B_init 24 = .ok (.aload_n 0, 1) := by decide +kernel
theorem dz_B_init_25 : decode cz_B_init 25 = .ok (.iconst (-1), 1) := by decide +kernel
theorem dz_B_init_26 : decode cz_B_init 26 = .ok (.putfield 26, 3) := by decide +kernel
theorem dz_B_init_29 : decode cz_B_init 29 = .ok (.aload_n 0, 1) := by decide +kernel
theorem dz_B_init_30 : decode cz_B_init 30 = .ok (.lconst 0, 1) := by decide +kernel
theorem dz_B_init_31 : decode cz_B_init 31 = .ok (.putfield 29, 3) := by decide +kernel
theorem dz_B_init_34 : decode cz_B_init 34 = .ok (.aload_n 0, 1) := by decide +kernel
theorem dz_B_init_35 : decode cz_B_init 35 = .ok (.iconst 0, 1) := by decide +kernel
theorem dz_B_init_36 : decode cz_B_init 36 = .ok (.putfield 32, 3) := by decide +kernel
theorem dz_B_init_39 : decode cz_B_init 39 = .ok (.aload_n 0, 1) := by decide +kernel
theorem dz_B_init_40 : decode cz_B_init 40 = .ok (.lconst 0, 1) := by decide +kernel
theorem dz_B_init_41 : decode cz_B_init 41 = .ok (.putfield 35, 3) := by decide +kernel
theorem dz_B_init_44 : decode cz_B_init 44 = .ok (.aload_n 0, 1) := by decide +kernel
theorem dz_B_init_45 : decode cz_B_init 45 = .ok (.iload_n 1, 1) := by decide +kernel
theorem dz_B_init_46 : decode cz_B_init 46 = .ok (.putfield 38, 3) := by decide +kernel
theorem dz_B_init_49 : decode cz_B_init 49 = .ok (.return_, 1) := by decide +kernel
theorem dz_B_isEvent_0 : decode cz_B_isEvent 0 = .ok (.iload_n 0, 1) := by decide +kernel
theorem dz_B_isEvent_1 : decode cz_B_isEvent 1 = .ok (.ifCond .lt 12, 3) := by decide +kernel
theorem dz_B_isEvent_4 : decode cz_B_isEvent 4 = .ok (.iload_n 0, 1) := by decide +kernel
theorem dz_B_isEvent_5 : decode cz_B_isEvent 5 = .ok (.iconst 4, 1) := by decide +kernel
theorem dz_B_isEvent_6 : decode cz_B_isEvent 6 = .ok (.if_icmp .gt 7, 3) := by decide +kernel
theorem dz_B_isEvent_9 : decode cz_B_isEvent 9 = .ok (.iconst 1, 1) := by decide +kernel
theorem dz_B_isEvent_10 : decode cz_B_isEvent 10 = .ok (.goto 4, 3) := by decide +kernel
theorem dz_B_isEvent_13 : decode cz_B_isEvent 13 = .ok (.iconst 0, 1) := by decide +kernel
theorem dz_B_isEvent_14 : decode cz_B_isEvent 14 = .ok (.ireturn, 1) := by decide +kernel
theorem dz_B_isEmpty_0 : decode cz_B_isEmpty 0 = .ok (.aload_n 0, 1) := by decide +kernel
theorem dz_B_isEmpty_1 : decode cz_B_isEmpty 1 = .ok (.getfield 23, 3) := by decide +kernel
theorem dz_B_isEmpty_4 : decode cz_B_isEmpty 4 = .ok (.ifCond .ne 7, 3) := by decide +kernel
theorem dz_B_isEmpty_7 : decode cz_B_isEmpty 7 = .ok (.iconst 1, 1) := by decide +kernel
theorem dz_B_isEmpty_8 : decode cz_B_isEmpty 8 = .ok (.goto 4, 3) := by decide +kernel
theorem dz_B_isEmpty_11 : decode cz_B_isEmpty 11 = .ok (.iconst 0, 1) := by decide +kernel
theorem dz_B_isEmpty_12 : decode cz_B_isEmpty 12 = .ok (.ireturn, 1) := by decide +kernel
theorem dz_B_lies_0 : decode cz_B_lies 0 = .ok (.aload_n 0, 1) := by decide +kernel
theorem dz_B_lies_1 : decode cz_B_lies 1 = .ok (.getfield 26, 3) := by decide +kernel
theorem dz_B_lies_4 : decode cz_B_lies 4 = .ok (.iconst (-1), 1) := by decide +kernel
theorem dz_B_lies_5 : decode cz_B_lies 5 = .ok (.if_icmp .eq 7, 3) := by decide +kernel
theorem dz_B_lies_8 : decode cz_B_lies 8 = .ok (.iconst 1, 1) := by decide +kernel
theorem dz_B_lies_9 : decode cz_B_lies 9 = .ok (.goto 4, 3) := by decide +kernel
theorem dz_B_lies_12 : decode cz_B_lies 12 = .ok (.iconst 0, 1) := by decide +kernel
theorem dz_B_lies_13 : decode cz_B_lies 13 = .ok (.ireturn, 1) := by decide +kernel
theorem dz_B_wantsCode_0 : decode cz_B_wantsCode 0 = .ok (.aload_n 0, 1) := by decide +kernel
theorem dz_B_wantsCode_1 : decode cz_B_wantsCode 1 = .ok (.invokevirtual 41, 3) := by decide +kernel
theorem dz_B_wantsCode_4 : decode cz_B_wantsCode 4 = .ok (.ifCond .ne 14, 3) := by decide +kernel
theorem dz_B_wantsCode_7 : decode cz_B_wantsCode 7 = .ok (.aload_n 0, 1) := by decide +kernel
theorem dz_B_wantsCode_8 : decode cz_B_wantsCode 8 = .ok (.invokevirtual 45, 3) := by decide +kernel
theorem dz_B_wantsCode_11 : decode cz_B_wantsCode 11 = .ok (.ifCond .ne 7, 3) := by decide +kernel
theorem dz_B_wantsCode_14 : decode cz_B_wantsCode 14 = .ok (.iconst 1, 1) := by decide +kernel
theorem dz_B_wantsCode_15 : decode cz_B_wantsCode 15 = .ok (.goto 4, 3) := by decide +kernel
theorem dz_B_wantsCode_18 : decode cz_B_wantsCode 18 = .ok (.iconst 0, 1) := by decide +kernel
theorem dz_B_wantsCode_19 : decode cz_B_wantsCode 19 = .ok (.ireturn, 1) := by decide +kernel
theorem dz_B_isOpenOrForced_0 : decode cz_B_isOpenOrForced 0 = .ok (.aload_n 0, 1) := by decide +kernel
theorem dz_B_isOpenOrForced_1 : decode cz_B_isOpenOrForced 1 = .ok (.getfield 9, 3) := by decide +kernel
theorem dz_B_isOpenOrForced_4 : decode cz_B_isOpenOrForced 4 = .ok (.iconst 1, 1) := by decide +kernel
theorem dz_B_isOpenOrForced_5 : decode cz_B_isOpenOrForced 5 = .ok (.if_icmp .eq 11, 3) := by decide +kernel
theorem dz_B_isOpenOrForced_8 : decode cz_B_isOpenOrForced 8 = .ok (.aload_n 0, 1) := by decide +kernel
theorem dz_B_isOpenOrForced_9 : decode cz_B_isOpenOrForced 9 = .ok (.getfield 9, 3) := by decide +kernel
theorem dz_B_isOpenOrForced_12 : decode cz_B_isOpenOrForced 12 = .ok (.iconst 2, 1) := by decide +kernel
theorem dz_B_isOpenOrForced_13 : decode cz_B_isOpenOrForced 13 = .ok (.if_icmp .ne 7, 3) := by decide +kernel
theorem dz_B_isOpenOrForced_16 : decode cz_B_isOpenOrForced 16 = .ok (.iconst 1, 1) := by decide +kernel
theorem dz_B_isOpenOrForced_17 : decode cz_B_isOpenOrForced 17 = .ok (.goto 4, 3) := by decide +kernel
theorem dz_B_isOpenOrForced_20 : decode cz_B_isOpenOrForced 20 = .ok (.iconst 0, 1) := by decide +kernel
theorem dz_B_isOpenOrForced_21 : decode cz_B_isOpenOrForced 21 = .ok (.ireturn, 1) := by decide +kernel
theorem dz_B_isUnused_0 : decode cz_B_isUnused 0 = .ok (.aload_n 0, 1) := by decide +kernel
theorem dz_B_isUnused_1 : decode cz_B_isUnused 1 = .ok (.getfield 9, 3) := by decide +kernel
theorem dz_B_isUnused_4 : decode cz_B_isUnused 4 = .ok (.ifCond .ne 23, 3) := by decide +kernel
theorem dz_B_isUnused_7 : decode cz_B_isUnused 7 = .ok (.aload_n 0, 1) := by decide +kernel
theorem dz_B_isUnused_8 : decode cz_B_isUnused 8 = .ok (.invokevirtual 41, 3) := by decide +kernel
theorem dz_B_isUnused_11 : decode cz_B_isUnused 11 = .ok (.ifCond .eq 16, 3) := by decide +kernel
theorem dz_B_isUnused_14 : decode cz_B_isUnused 14 = .ok (.aload_n 0, 1) := by decide +kernel
theorem dz_B_isUnused_15 : decode cz_B_isUnused 15 = .ok (.getfield 35, 3) := by decide +kernel
theorem dz_B_isUnused_18 : decode cz_B_isUnused 18 = .ok (.lconst 0, 1) := by decide +kernel
theorem dz_B_isUnused_19 : decode cz_B_isUnused 19 = .ok (.lcmp, 1) := by decide +kernel
theorem dz_B_isUnused_20 : decode cz_B_isUnused 20 = .ok (.ifCond .ne 7, 3) := by decide +kernel
theorem dz_B_isUnused_23 : decode cz_B_isUnused 23 = .ok (.iconst 1, 1) := by decide +kernel
theorem dz_B_isUnused_24 : decode cz_B_isUnused 24 = .ok (.goto 4, 3) := by decide +kernel
theorem dz_B_isUnused_27 : decode cz_B_isUnused 27 = .ok (.iconst 0, 1) := by decide +kernel
theorem dz_B_isUnused_28 : decode cz_B_isUnused 28 = .ok (.ireturn, 1) := by decide +kernel
theorem dz_B_admits_0 : decode cz_B_admits 0 = .ok (.iload_n 1, 1) := by decide +kernel
theorem dz_B_admits_1 : decode cz_B_admits 1 = .ok (.tableswitch 102 0 4 #[35, 48, 69, 83, 88], 35) := by decide +kernel
theorem dz_B_admits_36 : decode cz_B_admits 36 = .ok (.aload_n 0, 1) := by decide +kernel
theorem dz_B_admits_37 : decode cz_B_admits 37 = .ok (.getfield 9, 3) := by decide +kernel
theorem dz_B_admits_40 : decode cz_B_admits 40 = .ok (.ifCond .ne 7, 3) := by decide +kernel
theorem dz_B_admits_43 : decode cz_B_admits 43 = .ok (.iconst 1, 1) := by decide +kernel
theorem dz_B_admits_44 : decode cz_B_admits 44 = .ok (.goto 4, 3) := by decide +kernel
theorem dz_B_admits_47 : decode cz_B_admits 47 = .ok (.iconst 0, 1) := by decide +kernel
theorem dz_B_admits_48 : decode cz_B_admits 48 = .ok (.ireturn, 1) := by decide +kernel
theorem dz_B_admits_49 : decode cz_B_admits 49 = .ok (.aload_n 0, 1) := by decide +kernel
theorem dz_B_admits_50 : decode cz_B_admits 50 = .ok (.getfield 9, 3) := by decide +kernel
theorem dz_B_admits_53 : decode cz_B_admits 53 = .ok (.ifCond .eq 11, 3) := by decide +kernel
theorem dz_B_admits_56 : decode cz_B_admits 56 = .ok (.aload_n 0, 1) := by decide +kernel
theorem dz_B_admits_57 : decode cz_B_admits 57 = .ok (.getfield 9, 3) := by decide +kernel
theorem dz_B_admits_60 : decode cz_B_admits 60 = .ok (.iconst 1, 1) := by decide +kernel
theorem dz_B_admits_61 : decode cz_B_admits 61 = .ok (.if_icmp .ne 7, 3) := by decide +kernel
theorem dz_B_admits_64 : decode cz_B_admits 64 = .ok (.iconst 1, 1) := by decide +kernel
theorem dz_B_admits_65 : decode cz_B_admits 65 = .ok (.goto 4, 3) := by decide +kernel
theorem dz_B_admits_68 : decode cz_B_admits 68 = .ok (.iconst 0, 1) := by decide +kernel
theorem dz_B_admits_69 : decode cz_B_admits 69 = .ok (.ireturn, 1) := by decide +kernel
theorem dz_B_admits_70 : decode cz_B_admits 70 = .ok (.aload_n 0, 1) := by decide +kernel
theorem dz_B_admits_71 : decode cz_B_admits 71 = .ok (.getfield 9, 3) := by decide +kernel
theorem dz_B_admits_74 : decode cz_B_admits 74 = .ok (.iconst 2, 1) := by decide +kernel
theorem dz_B_admits_75 : decode cz_B_admits 75 = .ok (.if_icmp .ne 7, 3) := by decide +kernel
theorem dz_B_admits_78 : decode cz_B_admits 78 = .ok (.iconst 1, 1) := by decide +kernel
theorem dz_B_admits_79 : decode cz_B_admits 79 = .ok (.goto 4, 3) := by decide +kernel
theorem dz_B_admits_82 : decode cz_B_admits 82 = .ok (.iconst 0, 1) := by decide +kernel
theorem dz_B_admits_83 : decode cz_B_admits 83 = .ok (.ireturn, 1) := by decide +kernel
theorem dz_B_admits_84 : decode cz_B_admits 84 = .ok (.aload_n 0, 1) := by decide +kernel
theorem dz_B_admits_85 : decode cz_B_admits 85 = .ok (.invokevirtual 48, 3) := by decide +kernel
theorem dz_B_admits_88 : decode cz_B_admits 88 = .ok (.ireturn, 1) := by decide +kernel
theorem dz_B_admits_89 : decode cz_B_admits 89 = .ok (.aload_n 0, 1) := by decide +kernel
theorem dz_B_admits_90 : decode cz_B_admits 90 = .ok (.getfield 9, 3) := by decide +kernel
theorem dz_B_admits_93 : decode cz_B_admits 93 = .ok (.iconst 3, 1) := by decide +kernel
theorem dz_B_admits_94 : decode cz_B_admits 94 = .ok (.if_icmp .ne 7, 3) := by decide +kernel
theorem dz_B_admits_97 : decode cz_B_admits 97 = .ok (.iconst 1, 1) := by decide +kernel
theorem dz_B_admits_98 : decode cz_B_admits 98 = .ok (.goto 4, 3) := by decide +kernel
theorem dz_B_admits_101 : decode cz_B_admits 101 = .ok (.iconst 0, 1) := by decide +kernel
theorem dz_B_admits_102 : decode cz_B_admits 102 = .ok (.ireturn, 1) := by decide +kernel
theorem dz_B_admits_103 : decode cz_B_admits 103 = .ok (.iconst 0, 1) := by decide +kernel
theorem dz_B_admits_104 : decode cz_B_admits 104 = .ok (.ireturn, 1) := by decide +kernel
theorem dz_B_undergo_0 : decode cz_B_undergo 0 = .ok (.iload_n 1, 1) := by decide +kernel
theorem dz_B_undergo_1 : decode cz_B_undergo 1 = .ok (.tableswitch 57 0 3 #[31, 40, 57, 49], 31) := by decide +kernel
theorem dz_B_undergo_32 : decode cz_B_undergo 32 = .ok (.aload_n 0, 1) := by decide +kernel
theorem dz_B_undergo_33 : decode cz_B_undergo 33 = .ok (.iconst 1, 1) := by decide +kernel
theorem dz_B_undergo_34 : decode cz_B_undergo 34 = .ok (.lload_n 2, 1) := by decide +kernel
theorem dz_B_undergo_35 : decode cz_B_undergo 35 = .ok (.invokevirtual 51, 3) := by decide +kernel
theorem dz_B_undergo_38 : decode cz_B_undergo 38 = .ok (.goto 25, 3) := by decide +kernel
theorem dz_B_undergo_41 : decode cz_B_undergo 41 = .ok (.aload_n 0, 1) := by decide +kernel
theorem dz_B_undergo_42 : decode cz_B_undergo 42 = .ok (.iconst 2, 1) := by decide +kernel
theorem dz_B_undergo_43 : decode cz_B_undergo 43 = .ok (.lload_n 2, 1) := by decide +kernel
theorem dz_B_undergo_44 : decode cz_B_undergo 44 = .ok (.invokevirtual 51, 3) := by decide +kernel
theorem dz_B_undergo_47 : decode cz_B_undergo 47 = .ok (.goto 16, 3) := by decide +kernel
theorem dz_B_undergo_50 : decode cz_B_undergo 50 = .ok (.aload_n 0, 1) := by decide +kernel
theorem dz_B_undergo_51 : decode cz_B_undergo 51 = .ok (.iconst 3, 1) := by decide +kernel
theorem dz_B_undergo_52 : decode cz_B_undergo 52 = .ok (.putfield 9, 3) := by decide +kernel
theorem dz_B_undergo_55 : decode cz_B_undergo 55 = .ok (.goto 8, 3) := by decide +kernel
theorem dz_B_undergo_58 : decode cz_B_undergo 58 = .ok (.aload_n 0, 1) := by decide +kernel
theorem dz_B_undergo_59 : decode cz_B_undergo 59 = .ok (.iconst 0, 1) := by decide +kernel
theorem dz_B_undergo_60 : decode cz_B_undergo 60 = .ok (.putfield 9, 3) := by decide +kernel
theorem dz_B_undergo_63 : decode cz_B_undergo 63 = .ok (.return_, 1) := by decide +kernel
theorem dz_B_beginOpening_0 : decode cz_B_beginOpening 0 = .ok (.aload_n 0, 1) := by decide +kernel
theorem dz_B_beginOpening_1 : decode cz_B_beginOpening 1 = .ok (.iload_n 1, 1) := by decide +kernel
theorem dz_B_beginOpening_2 : decode cz_B_beginOpening 2 = .ok (.putfield 9, 3) := by decide +kernel
theorem dz_B_beginOpening_5 : decode cz_B_beginOpening 5 = .ok (.aload_n 0, 1) := by decide +kernel
theorem dz_B_beginOpening_6 : decode cz_B_beginOpening 6 = .ok (.lload_n 2, 1) := by decide +kernel
theorem dz_B_beginOpening_7 : decode cz_B_beginOpening 7 = .ok (.putfield 15, 3) := by decide +kernel
theorem dz_B_beginOpening_10 : decode cz_B_beginOpening 10 = .ok (.aload_n 0, 1) := by decide +kernel
theorem dz_B_beginOpening_11 : decode cz_B_beginOpening 11 = .ok (.iconst 0, 1) := by decide +kernel
theorem dz_B_beginOpening_12 : decode cz_B_beginOpening 12 = .ok (.putfield 19, 3) := by decide +kernel
theorem dz_B_beginOpening_15 : decode cz_B_beginOpening 15 = .ok (.return_, 1) := by decide +kernel
theorem dz_B_receive_0 : decode cz_B_receive 0 = .ok (.aload_n 0, 1) := by decide +kernel
theorem dz_B_receive_1 : decode cz_B_receive 1 = .ok (.iload_n 1, 1) := by decide +kernel
theorem dz_B_receive_2 : decode cz_B_receive 2 = .ok (.putfield 23, 3) := by decide +kernel
theorem dz_B_receive_5 : decode cz_B_receive 5 = .ok (.aload_n 0, 1) := by decide +kernel
theorem dz_B_receive_6 : decode cz_B_receive 6 = .ok (.lconst 0, 1) := by decide +kernel
theorem dz_B_receive_7 : decode cz_B_receive 7 = .ok (.putfield 35, 3) := by decide +kernel
theorem dz_B_receive_10 : decode cz_B_receive 10 = .ok (.return_, 1) := by decide +kernel
theorem dz_B_layDown_0 : decode cz_B_layDown 0 = .ok (.aload_n 0, 1) := by decide +kernel
theorem dz_B_layDown_1 : decode cz_B_layDown 1 = .ok (.iload_n 1, 1) := by decide +kernel
theorem dz_B_layDown_2 : decode cz_B_layDown 2 = .ok (.putfield 26, 3) := by decide +kernel
theorem dz_B_layDown_5 : decode cz_B_layDown 5 = .ok (.aload_n 0, 1) := by decide +kernel
theorem dz_B_layDown_6 : decode cz_B_layDown 6 = .ok (.lload_n 2, 1) := by decide +kernel
theorem dz_B_layDown_7 : decode cz_B_layDown 7 = .ok (.putfield 29, 3) := by decide +kernel
theorem dz_B_layDown_10 : decode cz_B_layDown 10 = .ok (.return_, 1) := by decide +kernel
theorem dz_B_clear_0 : decode cz_B_clear 0 = .ok (.aload_n 0, 1) := by decide +kernel
theorem dz_B_clear_1 : decode cz_B_clear 1 = .ok (.iconst 0, 1) := by decide +kernel
theorem dz_B_clear_2 : decode cz_B_clear 2 = .ok (.putfield 23, 3) := by decide +kernel
theorem dz_B_clear_5 : decode cz_B_clear 5 = .ok (.aload_n 0, 1) := by decide +kernel
theorem dz_B_clear_6 : decode cz_B_clear 6 = .ok (.iconst (-1), 1) := by decide +kernel
theorem dz_B_clear_7 : decode cz_B_clear 7 = .ok (.putfield 26, 3) := by decide +kernel
theorem dz_B_clear_10 : decode cz_B_clear 10 = .ok (.aload_n 0, 1) := by decide +kernel
theorem dz_B_clear_11 : decode cz_B_clear 11 = .ok (.iconst 0, 1) := by decide +kernel
theorem dz_B_clear_12 : decode cz_B_clear 12 = .ok (.putfield 32, 3) := by decide +kernel
theorem dz_B_clear_15 : decode cz_B_clear 15 = .ok (.return_, 1) := by decide +kernel
theorem dz_B_freeIfDue_0 : decode cz_B_freeIfDue 0 = .ok (.aload_n 0, 1) := by decide +kernel
theorem dz_B_freeIfDue_1 : decode cz_B_freeIfDue 1 = .ok (.getfield 35, 3) := by decide +kernel
theorem dz_B_freeIfDue_4 : decode cz_B_freeIfDue 4 = .ok (.lconst 0, 1) := by decide +kernel
theorem dz_B_freeIfDue_5 : decode cz_B_freeIfDue 5 = .ok (.lcmp, 1) := by decide +kernel
theorem dz_B_freeIfDue_6 : decode cz_B_freeIfDue 6 = .ok (.ifCond .eq 12, 3) := by decide +kernel
theorem dz_B_freeIfDue_9 : decode cz_B_freeIfDue 9 = .ok (.aload_n 0, 1) := by decide +kernel
theorem dz_B_freeIfDue_10 : decode cz_B_freeIfDue 10 = .ok (.getfield 35, 3) := by decide +kernel
theorem dz_B_freeIfDue_13 : decode cz_B_freeIfDue 13 = .ok (.lload_n 1, 1) := by decide +kernel
theorem dz_B_freeIfDue_14 : decode cz_B_freeIfDue 14 = .ok (.lcmp, 1) := by decide +kernel
theorem dz_B_freeIfDue_15 : decode cz_B_freeIfDue 15 = .ok (.ifCond .le 5, 3) := by decide +kernel
theorem dz_B_freeIfDue_18 : decode cz_B_freeIfDue 18 = .ok (.iconst 0, 1) := by decide +kernel
theorem dz_B_freeIfDue_19 : decode cz_B_freeIfDue 19 = .ok (.ireturn, 1) := by decide +kernel
theorem dz_B_freeIfDue_20 : decode cz_B_freeIfDue 20 = .ok (.aload_n 0, 1) := by decide +kernel
theorem dz_B_freeIfDue_21 : decode cz_B_freeIfDue 21 = .ok (.lconst 0, 1) := by decide +kernel
theorem dz_B_freeIfDue_22 : decode cz_B_freeIfDue 22 = .ok (.putfield 35, 3) := by decide +kernel
theorem dz_B_freeIfDue_25 : decode cz_B_freeIfDue 25 = .ok (.iconst 1, 1) := by decide +kernel
theorem dz_B_freeIfDue_26 : decode cz_B_freeIfDue 26 = .ok (.ireturn, 1) := by decide +kernel
theorem dz_B_tellAlarms_0 : decode cz_B_tellAlarms 0 = .ok (.iconst 0, 1) := by decide +kernel
theorem dz_B_tellAlarms_1 : decode cz_B_tellAlarms 1 = .ok (.istore_n 3, 1) := by decide +kernel
theorem dz_B_tellAlarms_2 : decode cz_B_tellAlarms 2 = .ok (.aload_n 0, 1) := by decide +kernel
theorem dz_B_tellAlarms_3 : decode cz_B_tellAlarms 3 = .ok (.invokevirtual 55, 3) := by decide +kernel
theorem dz_B_tellAlarms_6 : decode cz_B_tellAlarms 6 = .ok (.ifCond .eq 31, 3) := by decide +kernel
theorem dz_B_tellAlarms_9 : decode cz_B_tellAlarms 9 = .ok (.aload_n 0, 1) := by decide +kernel
theorem dz_B_tellAlarms_10 : decode cz_B_tellAlarms 10 = .ok (.getfield 19, 3) := by decide +kernel
theorem dz_B_tellAlarms_13 : decode cz_B_tellAlarms 13 = .ok (.ifCond .ne 24, 3) := by decide +kernel
theorem dz_B_tellAlarms_16 : decode cz_B_tellAlarms 16 = .ok (.lload_n 1, 1) := by decide +kernel
theorem dz_B_tellAlarms_17 : decode cz_B_tellAlarms 17 = .ok (.aload_n 0, 1) := by decide +kernel
theorem dz_B_tellAlarms_18 : decode cz_B_tellAlarms 18 = .ok (.getfield 15, 3) := by decide +kernel
theorem dz_B_tellAlarms_21 : decode cz_B_tellAlarms 21 = .ok (.lsub, 1) := by decide +kernel
theorem dz_B_tellAlarms_22 : decode cz_B_tellAlarms 22 = .ok (.ldc2_w 58, 3) := by decide +kernel
theorem dz_B_tellAlarms_25 : decode cz_B_tellAlarms 25 = .ok (.lcmp, 1) := by decide +kernel
theorem dz_B_tellAlarms_26 : decode cz_B_tellAlarms 26 = .ok (.ifCond .lt 11, 3) := by decide +kernel
theorem dz_B_tellAlarms_29 : decode cz_B_tellAlarms 29 = .ok (.aload_n 0, 1) := by decide +kernel
theorem dz_B_tellAlarms_30 : decode cz_B_tellAlarms 30 = .ok (.iconst 1, 1) := by decide +kernel
theorem dz_B_tellAlarms_31 : decode cz_B_tellAlarms 31 = .ok (.putfield 19, 3) := by decide +kernel
theorem dz_B_tellAlarms_34 : decode cz_B_tellAlarms 34 = .ok (.iinc 3 1, 3) := by decide +kernel
theorem dz_B_tellAlarms_37 : decode cz_B_tellAlarms 37 = .ok (.aload_n 0, 1) := by decide +kernel
theorem dz_B_tellAlarms_38 : decode cz_B_tellAlarms 38 = .ok (.invokevirtual 45, 3) := by decide +kernel
theorem dz_B_tellAlarms_41 : decode cz_B_tellAlarms 41 = .ok (.ifCond .eq 31, 3) := by decide +kernel
theorem dz_B_tellAlarms_44 : decode cz_B_tellAlarms 44 = .ok (.aload_n 0, 1) := by decide +kernel
theorem dz_B_tellAlarms_45 : decode cz_B_tellAlarms 45 = .ok (.getfield 32, 3) := by decide +kernel
theorem dz_B_tellAlarms_48 : decode cz_B_tellAlarms 48 = .ok (.ifCond .ne 24, 3) := by decide +kernel
theorem dz_B_tellAlarms_51 : decode cz_B_tellAlarms 51 = .ok (.lload_n 1, 1) := by decide +kernel
theorem dz_B_tellAlarms_52 : decode cz_B_tellAlarms 52 = .ok (.aload_n 0, 1) := by decide +kernel
theorem dz_B_tellAlarms_53 : decode cz_B_tellAlarms 53 = .ok (.getfield 29, 3) := by decide +kernel
theorem dz_B_tellAlarms_56 : decode cz_B_tellAlarms 56 = .ok (.lsub, 1) := by decide +kernel
theorem dz_B_tellAlarms_57 : decode cz_B_tellAlarms 57 = .ok (.ldc2_w 60, 3) := by decide +kernel
theorem dz_B_tellAlarms_60 : decode cz_B_tellAlarms 60 = .ok (.lcmp, 1) := by decide +kernel
theorem dz_B_tellAlarms_61 : decode cz_B_tellAlarms 61 = .ok (.ifCond .lt 11, 3) := by decide +kernel
theorem dz_B_tellAlarms_64 : decode cz_B_tellAlarms 64 = .ok (.aload_n 0, 1) := by decide +kernel
theorem dz_B_tellAlarms_65 : decode cz_B_tellAlarms 65 = .ok (.iconst 1, 1) := by decide +kernel
theorem dz_B_tellAlarms_66 : decode cz_B_tellAlarms 66 = .ok (.putfield 32, 3) := by decide +kernel
theorem dz_B_tellAlarms_69 : decode cz_B_tellAlarms 69 = .ok (.iinc 3 1, 3) := by decide +kernel
theorem dz_B_tellAlarms_72 : decode cz_B_tellAlarms 72 = .ok (.iload_n 3, 1) := by decide +kernel
theorem dz_B_tellAlarms_73 : decode cz_B_tellAlarms 73 = .ok (.ireturn, 1) := by decide +kernel
theorem dz_T_init_0 : decode cz_T_init 0 = .ok (.aload_n 0, 1) := by decide +kernel
theorem dz_T_init_1 : decode cz_T_init 1 = .ok (.invokespecial 3, 3) := by decide +kernel
theorem dz_T_init_4 : decode cz_T_init 4 = .ok (.aload_n 0, 1) := by decide +kernel
theorem dz_T_init_5 : decode cz_T_init 5 = .ok (.sipush 200, 3) := by decide +kernel
theorem dz_T_init_8 : decode cz_T_init 8 = .ok (.newarray .int, 2) := by decide +kernel
theorem dz_T_init_10 : decode cz_T_init 10 = .ok (.putfield 11, 3) := by decide +kernel
theorem dz_T_init_13 : decode cz_T_init 13 = .ok (.aload_n 0, 1) := by decide +kernel
theorem dz_T_init_14 : decode cz_T_init 14 = .ok (.iconst 0, 1) := by decide +kernel
theorem dz_T_init_15 : decode cz_T_init 15 = .ok (.putfield 15, 3) := by decide +kernel
theorem dz_T_init_18 : decode cz_T_init 18 = .ok (.return_, 1) := by decide +kernel
theorem dz_T_length_0 : decode cz_T_length 0 = .ok (.aload_n 0, 1) := by decide +kernel
theorem dz_T_length_1 : decode cz_T_length 1 = .ok (.getfield 15, 3) := by decide +kernel
theorem dz_T_length_4 : decode cz_T_length 4 = .ok (.ireturn, 1) := by decide +kernel
theorem dz_T_append_0 : decode cz_T_append 0 = .ok (.aload_n 0, 1) := by decide +kernel
theorem dz_T_append_1 : decode cz_T_append 1 = .ok (.getfield 15, 3) := by decide +kernel
theorem dz_T_append_4 : decode cz_T_append 4 = .ok (.sipush 200, 3) := by decide +kernel
theorem dz_T_append_7 : decode cz_T_append 7 = .ok (.if_icmp .lt 5, 3) := by decide +kernel
theorem dz_T_append_10 : decode cz_T_append 10 = .ok (.iconst 0, 1) := by decide +kernel
theorem dz_T_append_11 : decode cz_T_append 11 = .ok (.ireturn, 1) := by decide +kernel
theorem dz_T_append_12 : decode cz_T_append 12 = .ok (.aload_n 0, 1) := by decide +kernel
theorem dz_T_append_13 : decode cz_T_append 13 = .ok (.getfield 11, 3) := by decide +kernel
theorem dz_T_append_16 : decode cz_T_append 16 = .ok (.aload_n 0, 1) := by decide +kernel
theorem dz_T_append_17 : decode cz_T_append 17 = .ok (.getfield 15, 3) := by decide +kernel
theorem dz_T_append_20 : decode cz_T_append 20 = .ok (.iload_n 1, 1) := by decide +kernel
theorem dz_T_append_21 : decode cz_T_append 21 = .ok (.iastore, 1) := by decide +kernel
theorem dz_T_append_22 : decode cz_T_append 22 = .ok (.aload_n 0, 1) := by decide +kernel
theorem dz_T_append_23 : decode cz_T_append 23 = .ok (.dup, 1) := by decide +kernel
theorem dz_T_append_24 : decode cz_T_append 24 = .ok (.getfield 15, 3) := by decide +kernel
theorem dz_T_append_27 : decode cz_T_append 27 = .ok (.iconst 1, 1) := by decide +kernel
theorem dz_T_append_28 : decode cz_T_append 28 = .ok (.iadd, 1) := by decide +kernel
theorem dz_T_append_29 : decode cz_T_append 29 = .ok (.putfield 15, 3) := by decide +kernel
theorem dz_T_append_32 : decode cz_T_append 32 = .ok (.iconst 1, 1) := by decide +kernel
theorem dz_T_append_33 : decode cz_T_append 33 = .ok (.ireturn, 1) := by decide +kernel
theorem dz_T_at_0 : decode cz_T_at 0 = .ok (.iload_n 1, 1) := by decide +kernel
theorem dz_T_at_1 : decode cz_T_at 1 = .ok (.ifCond .lt 20, 3) := by decide +kernel
theorem dz_T_at_4 : decode cz_T_at 4 = .ok (.iload_n 1, 1) := by decide +kernel
theorem dz_T_at_5 : decode cz_T_at 5 = .ok (.aload_n 0, 1) := by decide +kernel
theorem dz_T_at_6 : decode cz_T_at 6 = .ok (.getfield 15, 3) := by decide +kernel
theorem dz_T_at_9 : decode cz_T_at 9 = .ok (.if_icmp .ge 12, 3) := by decide +kernel
theorem dz_T_at_12 : decode cz_T_at 12 = .ok (.aload_n 0, 1) := by decide +kernel
theorem dz_T_at_13 : decode cz_T_at 13 = .ok (.getfield 11, 3) := by decide +kernel
theorem dz_T_at_16 : decode cz_T_at 16 = .ok (.iload_n 1, 1) := by decide +kernel
theorem dz_T_at_17 : decode cz_T_at 17 = .ok (.iaload, 1) := by decide +kernel
theorem dz_T_at_18 : decode cz_T_at 18 = .ok (.goto 4, 3) := by decide +kernel
theorem dz_T_at_21 : decode cz_T_at 21 = .ok (.iconst (-1), 1) := by decide +kernel
theorem dz_T_at_22 : decode cz_T_at 22 = .ok (.ireturn, 1) := by decide +kernel
theorem dz_T_dropFirst_0 : decode cz_T_dropFirst 0 = .ok (.iload_n 1, 1) := by decide +kernel
theorem dz_T_dropFirst_1 : decode cz_T_dropFirst 1 = .ok (.iconst 1, 1) := by decide +kernel
theorem dz_T_dropFirst_2 : decode cz_T_dropFirst 2 = .ok (.if_icmp .lt 11, 3) := by decide +kernel
theorem dz_T_dropFirst_5 : decode cz_T_dropFirst 5 = .ok (.iload_n 1, 1) := by decide +kernel
theorem dz_T_dropFirst_6 : decode cz_T_dropFirst 6 = .ok (.aload_n 0, 1) := by decide +kernel
theorem dz_T_dropFirst_7 : decode cz_T_dropFirst 7 = .ok (.getfield 15, 3) := by decide +kernel
theorem dz_T_dropFirst_10 : decode cz_T_dropFirst 10 = .ok (.if_icmp .le 4, 3) := by decide +kernel
theorem dz_T_dropFirst_13 : decode cz_T_dropFirst 13 = .ok (.return_, 1) := by decide +kernel
theorem dz_T_dropFirst_14 : decode cz_T_dropFirst 14 = .ok (.aload_n 0, 1) := by decide +kernel
theorem dz_T_dropFirst_15 : decode cz_T_dropFirst 15 = .ok (.getfield 11, 3) := by decide +kernel
theorem dz_T_dropFirst_18 : decode cz_T_dropFirst 18 = .ok (.iload_n 1, 1) := by decide +kernel
theorem dz_T_dropFirst_19 : decode cz_T_dropFirst 19 = .ok (.aload_n 0, 1) := by decide +kernel
theorem dz_T_dropFirst_20 : decode cz_T_dropFirst 20 = .ok (.getfield 11, 3) := by decide +kernel
theorem dz_T_dropFirst_23 : decode cz_T_dropFirst 23 = .ok (.iconst 0, 1) := by decide +kernel
theorem dz_T_dropFirst_24 : decode cz_T_dropFirst 24 = .ok (.aload_n 0, 1) := by decide +kernel
theorem dz_T_dropFirst_25 : decode cz_T_dropFirst 25 = .ok (.getfield 15, 3) := by decide +kernel
theorem dz_T_dropFirst_28 : decode cz_T_dropFirst 28 = .ok (.iload_n 1, 1) := by decide +kernel
theorem dz_T_dropFirst_29 : decode cz_T_dropFirst 29 = .ok (.isub, 1) := by decide +kernel
theorem dz_T_dropFirst_30 : decode cz_T_dropFirst 30 = .ok (.invokestatic 19, 3) := by decide +kernel
theorem dz_T_dropFirst_33 : decode cz_T_dropFirst 33 = .ok (.aload_n 0, 1) := by decide +kernel
theorem dz_T_dropFirst_34 : decode cz_T_dropFirst 34 = .ok (.dup, 1) := by decide +kernel
theorem dz_T_dropFirst_35 : decode cz_T_dropFirst 35 = .ok (.getfield 15, 3) := by decide +kernel
theorem dz_T_dropFirst_38 : decode cz_T_dropFirst 38 = .ok (.iload_n 1, 1) := by decide +kernel
theorem dz_T_dropFirst_39 : decode cz_T_dropFirst 39 = .ok (.isub, 1) := by decide +kernel
theorem dz_T_dropFirst_40 : decode cz_T_dropFirst 40 = .ok (.putfield 15, 3) := by decide +kernel
theorem dz_T_dropFirst_43 : decode cz_T_dropFirst 43 = .ok (.return_, 1) := by decide +kernel
