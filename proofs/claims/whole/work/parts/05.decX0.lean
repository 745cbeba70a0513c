theorem dX0_init_0 : decode cX0_init 0 = .ok (.aload_n 0, 1) := by decide +kernel
theorem dX0_init_1 : decode cX0_init 1 = .ok (.invokespecial 1, 3) := by decide +kernel
theorem dX0_init_4 : decode cX0_init 4 = .ok (.aload_n 0, 1) := by decide +kernel
theorem dX0_init_5 : decode cX0_init 5 = .ok (.bipush 120, 2) := by decide +kernel
theorem dX0_init_7 : decode cX0_init 7 = .ok (.newarray .int, 2) := by decide +kernel
theorem dX0_init_9 : decode cX0_init 9 = .ok (.putfield 9, 3) := by decide +kernel
theorem dX0_init_12 : decode cX0_init 12 = .ok (.aload_n 0, 1) := by decide +kernel
theorem dX0_init_13 : decode cX0_init 13 = .ok (.bipush 120, 2) := by decide +kernel
theorem dX0_init_15 : decode cX0_init 15 = .ok (.newarray .int, 2) := by decide +kernel
theorem dX0_init_17 : decode cX0_init 17 = .ok (.putfield 13, 3) := by decide +kernel
theorem dX0_init_20 : decode cX0_init 20 = .ok (.aload_n 0, 1) := by decide +kernel
theorem dX0_init_21 : decode cX0_init 21 = .ok (.bipush 120, 2) := by decide +kernel
theorem dX0_init_23 : decode cX0_init 23 = .ok (.newarray .long, 2) := by decide +kernel
theorem dX0_init_25 : decode cX0_init 25 = .ok (.putfield 16, 3) := by decide +kernel
theorem dX0_init_28 : decode cX0_init 28 = .ok (.aload_n 0, 1) := by decide +kernel
theorem dX0_init_29 : decode cX0_init 29 = .ok (.bipush 120, 2) := by decide +kernel
theorem dX0_init_31 : decode cX0_init 31 = .ok (.newarray .boolean, 2) := by decide +kernel
theorem dX0_init_33 : decode cX0_init 33 = .ok (.putfield 20, 3) := by decide +kernel
theorem dX0_init_36 : decode cX0_init 36 = .ok (.aload_n 0, 1) := by decide +kernel
theorem dX0_init_37 : decode cX0_init 37 = .ok (.bipush 20, 2) := by decide +kernel
theorem dX0_init_39 : decode cX0_init 39 = .ok (.newarray .long, 2) := by decide +kernel
theorem dX0_init_41 : decode cX0_init 41 = .ok (.putfield 24, 3) := by decide +kernel
theorem dX0_init_44 : decode cX0_init 44 = .ok (.aload_n 0, 1) := by decide +kernel
theorem dX0_init_45 : decode cX0_init 45 = .ok (.bipush 20, 2) := by decide +kernel
theorem dX0_init_47 : decode cX0_init 47 = .ok (.newarray .int, 2) := by decide +kernel
theorem dX0_init_49 : decode cX0_init 49 = .ok (.putfield 27, 3) := by decide +kernel
theorem dX0_init_52 : decode cX0_init 52 = .ok (.aload_n 0, 1) := by decide +kernel
theorem dX0_init_53 : decode cX0_init 53 = .ok (.bipush 21, 2) := by decide +kernel
theorem dX0_init_55 : decode cX0_init 55 = .ok (.newarray .int, 2) := by decide +kernel
theorem dX0_init_57 : decode cX0_init 57 = .ok (.putfield 30, 3) := by decide +kernel
theorem dX0_init_60 : decode cX0_init 60 = .ok (.return_, 1) := by decide +kernel
theorem dX0_add_0 : decode cX0_add 0 = .ok (.aload_n 0, 1) := by decide +kernel
theorem dX0_add_1 : decode cX0_add 1 = .ok (.getfield 33, 3) := by decide +kernel
theorem dX0_add_4 : decode cX0_add 4 = .ok (.bipush 120, 2) := by decide +kernel
theorem dX0_add_6 : decode cX0_add 6 = .ok (.if_icmp .ge 12, 3) := by decide +kernel
theorem dX0_add_9 : decode cX0_add 9 = .ok (.iload_n 1, 1) := by decide +kernel
theorem dX0_add_10 : decode cX0_add 10 = .ok (.iload_n 2, 1) := by decide +kernel
theorem dX0_add_11 : decode cX0_add 11 = .ok (.lload_n 3, 1) := by decide +kernel
theorem dX0_add_12 : decode cX0_add 12 = .ok (.invokestatic 37, 3) := by decide +kernel
theorem dX0_add_15 : decode cX0_add 15 = .ok (.ifCond .ne 5, 3) := by decide +kernel
theorem dX0_add_18 : decode cX0_add 18 = .ok (.iconst (-1), 1) := by decide +kernel
theorem dX0_add_19 : decode cX0_add 19 = .ok (.ireturn, 1) := by decide +kernel
theorem dX0_add_20 : decode cX0_add 20 = .ok (.aload_n 0, 1) := by decide +kernel
theorem dX0_add_21 : decode cX0_add 21 = .ok (.iload_n 1, 1) := by decide +kernel
theorem dX0_add_22 : decode cX0_add 22 = .ok (.iload_n 2, 1) := by decide +kernel
theorem dX0_add_23 : decode cX0_add 23 = .ok (.lload_n 3, 1) := by decide +kernel
theorem dX0_add_24 : decode cX0_add 24 = .ok (.invokevirtual 41, 3) := by decide +kernel
theorem dX0_add_27 : decode cX0_add 27 = .ok (.ifCond .eq 6, 3) := by decide +kernel
theorem dX0_add_30 : decode cX0_add 30 = .ok (.bipush (-2), 2) := by decide +kernel
theorem dX0_add_32 : decode cX0_add 32 = .ok (.ireturn, 1) := by decide +kernel
theorem dX0_add_33 : decode cX0_add 33 = .ok (.aload_n 0, 1) := by decide +kernel
theorem dX0_add_34 : decode cX0_add 34 = .ok (.getfield 33, 3) := by decide +kernel
theorem dX0_add_37 : decode cX0_add 37 = .ok (.istore 5, 2) := by decide +kernel
theorem dX0_add_39 : decode cX0_add 39 = .ok (.aload_n 0, 1) := by decide +kernel
theorem dX0_add_40 : decode cX0_add 40 = .ok (.getfield 9, 3) := by decide +kernel
theorem dX0_add_43 : decode cX0_add 43 = .ok (.iload 5, 2) := by decide +kernel
theorem dX0_add_45 : decode cX0_add 45 = .ok (.iload_n 1, 1) := by decide +kernel
theorem dX0_add_46 : decode cX0_add 46 = .ok (.iastore, 1) := by decide +kernel
theorem dX0_add_47 : decode cX0_add 47 = .ok (.aload_n 0, 1) := by decide +kernel
theorem dX0_add_48 : decode cX0_add 48 = .ok (.getfield 13, 3) := by decide +kernel
theorem dX0_add_51 : decode cX0_add 51 = .ok (.iload 5, 2) := by decide +kernel
theorem dX0_add_53 : decode cX0_add 53 = .ok (.iload_n 2, 1) := by decide +kernel
theorem dX0_add_54 : decode cX0_add 54 = .ok (.iastore, 1) := by decide +kernel
theorem dX0_add_55 : decode cX0_add 55 = .ok (.aload_n 0, 1) := by decide +kernel
theorem dX0_add_56 : decode cX0_add 56 = .ok (.getfield 16, 3) := by decide +kernel
theorem dX0_add_59 : decode cX0_add 59 = .ok (.iload 5, 2) := by decide +kernel
theorem dX0_add_61 : decode cX0_add 61 = .ok (.lload_n 3, 1) := by decide +kernel
theorem dX0_add_62 : decode cX0_add 62 = .ok (.lastore, 1) := by decide +kernel
theorem dX0_add_63 : decode cX0_add 63 = .ok (.aload_n 0, 1) := by decide +kernel
theorem dX0_add_64 : decode cX0_add 64 = .ok (.getfield 20, 3) := by decide +kernel
theorem dX0_add_67 : decode cX0_add 67 = .ok (.iload 5, 2) := by decide +kernel
theorem dX0_add_69 : decode cX0_add 69 = .ok (.iconst 1, 1) := by decide +kernel
theorem dX0_add_70 : decode cX0_add 70 = .ok (.bastore, 1) := by decide +kernel
theorem dX0_add_71 : decode cX0_add 71 = .ok (.aload_n 0, 1) := by decide +kernel
theorem dX0_add_72 : decode cX0_add 72 = .ok (.dup, 1) := by decide +kernel
theorem dX0_add_73 : decode cX0_add 73 = .ok (.getfield 33, 3) := by decide +kernel
theorem dX0_add_76 : decode cX0_add 76 = .ok (.iconst 1, 1) := by decide +kernel
theorem dX0_add_77 : decode cX0_add 77 = .ok (.iadd, 1) := by decide +kernel
theorem dX0_add_78 : decode cX0_add 78 = .ok (.putfield 33, 3) := by decide +kernel
theorem dX0_add_81 : decode cX0_add 81 = .ok (.aload_n 0, 1) := by decide +kernel
theorem dX0_add_82 : decode cX0_add 82 = .ok (.dup, 1) := by decide +kernel
theorem dX0_add_83 : decode cX0_add 83 = .ok (.getfield 44, 3) := by decide +kernel
theorem dX0_add_86 : decode cX0_add 86 = .ok (.iconst 1, 1) := by decide +kernel
theorem dX0_add_87 : decode cX0_add 87 = .ok (.iadd, 1) := by decide +kernel
theorem dX0_add_88 : decode cX0_add 88 = .ok (.putfield 44, 3) := by decide +kernel
theorem dX0_add_91 : decode cX0_add 91 = .ok (.iload 5, 2) := by decide +kernel
theorem dX0_add_93 : decode cX0_add 93 = .ok (.ireturn, 1) := by decide +kernel
theorem dX0_off_0 : decode cX0_off 0 = .ok (.aload_n 0, 1) := by decide +kernel
theorem dX0_off_1 : decode cX0_off 1 = .ok (.iload_n 1, 1) := by decide +kernel
theorem dX0_off_2 : decode cX0_off 2 = .ok (.invokevirtual 47, 3) := by decide +kernel
theorem dX0_off_5 : decode cX0_off 5 = .ok (.ifCond .eq 12, 3) := by decide +kernel
theorem dX0_off_8 : decode cX0_off 8 = .ok (.aload_n 0, 1) := by decide +kernel
theorem dX0_off_9 : decode cX0_off 9 = .ok (.getfield 20, 3) := by decide +kernel
theorem dX0_off_12 : decode cX0_off 12 = .ok (.iload_n 1, 1) := by decide +kernel
theorem dX0_off_13 : decode cX0_off 13 = .ok (.baload, 1) := by decide +kernel
theorem dX0_off_14 : decode cX0_off 14 = .ok (.ifCond .ne 5, 3) := by decide +kernel
theorem dX0_off_17 : decode cX0_off 17 = .ok (.iconst 0, 1) := by decide +kernel
theorem dX0_off_18 : decode cX0_off 18 = .ok (.ireturn, 1) := by decide +kernel
theorem dX0_off_19 : decode cX0_off 19 = .ok (.aload_n 0, 1) := by decide +kernel
theorem dX0_off_20 : decode cX0_off 20 = .ok (.getfield 20, 3) := by decide +kernel
theorem dX0_off_23 : decode cX0_off 23 = .ok (.iload_n 1, 1) := by decide +kernel
theorem dX0_off_24 : decode cX0_off 24 = .ok (.iconst 0, 1) := by decide +kernel
theorem dX0_off_25 : decode cX0_off 25 = .ok (.bastore, 1) := by decide +kernel
theorem dX0_off_26 : decode cX0_off 26 = .ok (.aload_n 0, 1) := by decide +kernel
theorem dX0_off_27 : decode cX0_off 27 = .ok (.dup, 1) := by decide +kernel
theorem dX0_off_28 : decode cX0_off 28 = .ok (.getfield 44, 3) := by decide +kernel
theorem dX0_off_31 : decode cX0_off 31 = .ok (.iconst 1, 1) := by decide +kernel
theorem dX0_off_32 : decode cX0_off 32 = .ok (.isub, 1) := by decide +kernel
theorem dX0_off_33 : decode cX0_off 33 = .ok (.putfield 44, 3) := by decide +kernel
theorem dX0_off_36 : decode cX0_off 36 = .ok (.iconst 1, 1) := by decide +kernel
theorem dX0_off_37 : decode cX0_off 37 = .ok (.ireturn, 1) := by decide +kernel
theorem dX0_on_0 : decode cX0_on 0 = .ok (.aload_n 0, 1) := by decide +kernel
theorem dX0_on_1 : decode cX0_on 1 = .ok (.iload_n 1, 1) := by decide +kernel
theorem dX0_on_2 : decode cX0_on 2 = .ok (.invokevirtual 47, 3) := by decide +kernel
theorem dX0_on_5 : decode cX0_on 5 = .ok (.ifCond .eq 12, 3) := by decide +kernel
theorem dX0_on_8 : decode cX0_on 8 = .ok (.aload_n 0, 1) := by decide +kernel
theorem dX0_on_9 : decode cX0_on 9 = .ok (.getfield 20, 3) := by decide +kernel
theorem dX0_on_12 : decode cX0_on 12 = .ok (.iload_n 1, 1) := by decide +kernel
theorem dX0_on_13 : decode cX0_on 13 = .ok (.baload, 1) := by decide +kernel
theorem dX0_on_14 : decode cX0_on 14 = .ok (.ifCond .eq 5, 3) := by decide +kernel
theorem dX0_on_17 : decode cX0_on 17 = .ok (.iconst (-1), 1) := by decide +kernel
theorem dX0_on_18 : decode cX0_on 18 = .ok (.ireturn, 1) := by decide +kernel
theorem dX0_on_19 : decode cX0_on 19 = .ok (.aload_n 0, 1) := by decide +kernel
theorem dX0_on_20 : decode cX0_on 20 = .ok (.aload_n 0, 1) := by decide +kernel
theorem dX0_on_21 : decode cX0_on 21 = .ok (.getfield 9, 3) := by decide +kernel
theorem dX0_on_24 : decode cX0_on 24 = .ok (.iload_n 1, 1) := by decide +kernel
theorem dX0_on_25 : decode cX0_on 25 = .ok (.iaload, 1) := by decide +kernel
theorem dX0_on_26 : decode cX0_on 26 = .ok (.aload_n 0, 1) := by decide +kernel
theorem dX0_on_27 : decode cX0_on 27 = .ok (.getfield 13, 3) := by decide +kernel
theorem dX0_on_30 : decode cX0_on 30 = .ok (.iload_n 1, 1) := by decide +kernel
theorem dX0_on_31 : decode cX0_on 31 = .ok (.iaload, 1) := by decide +kernel
theorem dX0_on_32 : decode cX0_on 32 = .ok (.aload_n 0, 1) := by decide +kernel
theorem dX0_on_33 : decode cX0_on 33 = .ok (.getfield 16, 3) := by decide +kernel
theorem dX0_on_36 : decode cX0_on 36 = .ok (.iload_n 1, 1) := by decide +kernel
theorem dX0_on_37 : decode cX0_on 37 = .ok (.laload, 1) := by decide +kernel
theorem dX0_on_38 : decode cX0_on 38 = .ok (.invokevirtual 41, 3) := by decide +kernel
theorem dX0_on_41 : decode cX0_on 41 = .ok (.ifCond .eq 6, 3) := by decide +kernel
theorem dX0_on_44 : decode cX0_on 44 = .ok (.bipush (-2), 2) := by decide +kernel
theorem dX0_on_46 : decode cX0_on 46 = .ok (.ireturn, 1) := by decide +kernel
theorem dX0_on_47 : decode cX0_on 47 = .ok (.aload_n 0, 1) := by decide +kernel
theorem dX0_on_48 : decode cX0_on 48 = .ok (.getfield 20, 3) := by decide +kernel
theorem dX0_on_51 : decode cX0_on 51 = .ok (.iload_n 1, 1) := by decide +kernel
theorem dX0_on_52 : decode cX0_on 52 = .ok (.iconst 1, 1) := by decide +kernel
theorem dX0_on_53 : decode cX0_on 53 = .ok (.bastore, 1) := by decide +kernel
theorem dX0_on_54 : decode cX0_on 54 = .ok (.aload_n 0, 1) := by decide +kernel
theorem dX0_on_55 : decode cX0_on 55 = .ok (.dup, 1) := by decide +kernel
theorem dX0_on_56 : decode cX0_on 56 = .ok (.getfield 44, 3) := by decide +kernel
theorem dX0_on_59 : decode cX0_on 59 = .ok (.iconst 1, 1) := by decide +kernel
theorem dX0_on_60 : decode cX0_on 60 = .ok (.iadd, 1) := by decide +kernel
theorem dX0_on_61 : decode cX0_on 61 = .ok (.putfield 44, 3) := by decide +kernel
theorem dX0_on_64 : decode cX0_on 64 = .ok (.iload_n 1, 1) := by decide +kernel
theorem dX0_on_65 : decode cX0_on 65 = .ok (.ireturn, 1) := by decide +kernel
theorem dX0_bound_0 : decode cX0_bound 0 = .ok (.iload_n 1, 1) := by decide +kernel
theorem dX0_bound_1 : decode cX0_bound 1 = .ok (.invokestatic 51, 3) := by decide +kernel
theorem dX0_bound_4 : decode cX0_bound 4 = .ok (.ifCond .eq 10, 3) := by decide +kernel
theorem dX0_bound_7 : decode cX0_bound 7 = .ok (.iload_n 2, 1) := by decide +kernel
theorem dX0_bound_8 : decode cX0_bound 8 = .ok (.invokestatic 51, 3) := by decide +kernel
theorem dX0_bound_11 : decode cX0_bound 11 = .ok (.ifCond .ne 11, 3) := by decide +kernel
theorem dX0_bound_14 : decode cX0_bound 14 = .ok (.new 54, 3) := by decide +kernel
theorem dX0_bound_17 : decode cX0_bound 17 = .ok (.dup, 1) := by decide +kernel
theorem dX0_bound_18 : decode cX0_bound 18 = .ok (.invokespecial 56, 3) := by decide +kernel
theorem dX0_bound_21 : decode cX0_bound 21 = .ok (.athrow, 1) := by decide +kernel
theorem dX0_bound_22 : decode cX0_bound 22 = .ok (.aload_n 0, 1) := by decide +kernel
theorem dX0_bound_23 : decode cX0_bound 23 = .ok (.iload_n 2, 1) := by decide +kernel
theorem dX0_bound_24 : decode cX0_bound 24 = .ok (.invokevirtual 57, 3) := by decide +kernel
theorem dX0_bound_27 : decode cX0_bound 27 = .ok (.aload_n 0, 1) := by decide +kernel
theorem dX0_bound_28 : decode cX0_bound 28 = .ok (.getfield 24, 3) := by decide +kernel
theorem dX0_bound_31 : decode cX0_bound 31 = .ok (.iload_n 1, 1) := by decide +kernel
theorem dX0_bound_32 : decode cX0_bound 32 = .ok (.laload, 1) := by decide +kernel
theorem dX0_bound_33 : decode cX0_bound 33 = .ok (.lreturn, 1) := by decide +kernel
theorem dX0_steps_0 : decode cX0_steps 0 = .ok (.aload_n 0, 1) := by decide +kernel
theorem dX0_steps_1 : decode cX0_steps 1 = .ok (.iload_n 1, 1) := by decide +kernel
theorem dX0_steps_2 : decode cX0_steps 2 = .ok (.iload_n 2, 1) := by decide +kernel
theorem dX0_steps_3 : decode cX0_steps 3 = .ok (.invokevirtual 61, 3) := by decide +kernel
theorem dX0_steps_6 : decode cX0_steps 6 = .ok (.ifCond .eq 12, 3) := by decide +kernel
theorem dX0_steps_9 : decode cX0_steps 9 = .ok (.aload_n 0, 1) := by decide +kernel
theorem dX0_steps_10 : decode cX0_steps 10 = .ok (.getfield 27, 3) := by decide +kernel
theorem dX0_steps_13 : decode cX0_steps 13 = .ok (.iload_n 1, 1) := by decide +kernel
theorem dX0_steps_14 : decode cX0_steps 14 = .ok (.iaload, 1) := by decide +kernel
theorem dX0_steps_15 : decode cX0_steps 15 = .ok (.goto 4, 3) := by decide +kernel
theorem dX0_steps_18 : decode cX0_steps 18 = .ok (.iconst (-1), 1) := by decide +kernel
theorem dX0_steps_19 : decode cX0_steps 19 = .ok (.ireturn, 1) := by decide +kernel
theorem dX0_path_0 : decode cX0_path 0 = .ok (.aload_n 0, 1) := by decide +kernel
theorem dX0_path_1 : decode cX0_path 1 = .ok (.iload_n 1, 1) := by decide +kernel
theorem dX0_path_2 : decode cX0_path 2 = .ok (.iload_n 2, 1) := by decide +kernel
theorem dX0_path_3 : decode cX0_path 3 = .ok (.invokevirtual 61, 3) := by decide +kernel
theorem dX0_path_6 : decode cX0_path 6 = .ok (.ifCond .ne 5, 3) := by decide +kernel
theorem dX0_path_9 : decode cX0_path 9 = .ok (.iconst (-1), 1) := by decide +kernel
theorem dX0_path_10 : decode cX0_path 10 = .ok (.ireturn, 1) := by decide +kernel
theorem dX0_path_11 : decode cX0_path 11 = .ok (.aload_n 0, 1) := by decide +kernel
theorem dX0_path_12 : decode cX0_path 12 = .ok (.iconst 0, 1) := by decide +kernel
theorem dX0_path_13 : decode cX0_path 13 = .ok (.putfield 65, 3) := by decide +kernel
theorem dX0_path_16 : decode cX0_path 16 = .ok (.aload_n 0, 1) := by decide +kernel
theorem dX0_path_17 : decode cX0_path 17 = .ok (.iload_n 1, 1) := by decide +kernel
theorem dX0_path_18 : decode cX0_path 18 = .ok (.invokevirtual 68, 3) := by decide +kernel
theorem dX0_path_21 : decode cX0_path 21 = .ok (.aload_n 0, 1) := by decide +kernel
theorem dX0_path_22 : decode cX0_path 22 = .ok (.aload_n 0, 1) := by decide +kernel
theorem dX0_path_23 : decode cX0_path 23 = .ok (.getfield 24, 3) := by decide +kernel
theorem dX0_path_26 : decode cX0_path 26 = .ok (.iload_n 1, 1) := by decide +kernel
theorem dX0_path_27 : decode cX0_path 27 = .ok (.laload, 1) := by decide +kernel
theorem dX0_path_28 : decode cX0_path 28 = .ok (.putfield 71, 3) := by decide +kernel
theorem dX0_path_31 : decode cX0_path 31 = .ok (.aload_n 0, 1) := by decide +kernel
theorem dX0_path_32 : decode cX0_path 32 = .ok (.getfield 65, 3) := by decide +kernel
theorem dX0_path_35 : decode cX0_path 35 = .ok (.ireturn, 1) := by decide +kernel
theorem dX0_row_0 : decode cX0_row 0 = .ok (.aload_n 0, 1) := by decide +kernel
theorem dX0_row_1 : decode cX0_row 1 = .ok (.getfield 65, 3) := by decide +kernel
theorem dX0_row_4 : decode cX0_row 4 = .ok (.ireturn, 1) := by decide +kernel
theorem dX0_rowAt_0 : decode cX0_rowAt 0 = .ok (.iload_n 1, 1) := by decide +kernel
theorem dX0_rowAt_1 : decode cX0_rowAt 1 = .ok (.ifCond .lt 20, 3) := by decide +kernel
theorem dX0_rowAt_4 : decode cX0_rowAt 4 = .ok (.iload_n 1, 1) := by decide +kernel
theorem dX0_rowAt_5 : decode cX0_rowAt 5 = .ok (.aload_n 0, 1) := by decide +kernel
theorem dX0_rowAt_6 : decode cX0_rowAt 6 = .ok (.getfield 65, 3) := by decide +kernel
theorem dX0_rowAt_9 : decode cX0_rowAt 9 = .ok (.if_icmp .ge 12, 3) := by decide +kernel
theorem dX0_rowAt_12 : decode cX0_rowAt 12 = .ok (.aload_n 0, 1) := by decide +kernel
theorem dX0_rowAt_13 : decode cX0_rowAt 13 = .ok (.getfield 30, 3) := by decide +kernel
theorem dX0_rowAt_16 : decode cX0_rowAt 16 = .ok (.iload_n 1, 1) := by decide +kernel
theorem dX0_rowAt_17 : decode cX0_rowAt 17 = .ok (.iaload, 1) := by decide +kernel
theorem dX0_rowAt_18 : decode cX0_rowAt 18 = .ok (.goto 4, 3) := by decide +kernel
theorem dX0_rowAt_21 : decode cX0_rowAt 21 = .ok (.iconst (-1), 1) := by decide +kernel
theorem dX0_rowAt_22 : decode cX0_rowAt 22 = .ok (.ireturn, 1) := by decide +kernel
theorem dX0_length_0 : decode cX0_length 0 = .ok (.aload_n 0, 1) := by decide +kernel
theorem dX0_length_1 : decode cX0_length 1 = .ok (.getfield 71, 3) := by decide +kernel
theorem dX0_length_4 : decode cX0_length 4 = .ok (.lreturn, 1) := by decide +kernel
theorem dX0_earliest_0 : decode cX0_earliest 0 = .ok (.iload_n 1, 1) := by decide +kernel
theorem dX0_earliest_1 : decode cX0_earliest 1 = .ok (.invokestatic 51, 3) := by decide +kernel
theorem dX0_earliest_4 : decode cX0_earliest 4 = .ok (.ifCond .ne 11, 3) := by decide +kernel
theorem dX0_earliest_7 : decode cX0_earliest 7 = .ok (.new 54, 3) := by decide +kernel
theorem dX0_earliest_10 : decode cX0_earliest 10 = .ok (.dup, 1) := by decide +kernel
theorem dX0_earliest_11 : decode cX0_earliest 11 = .ok (.invokespecial 56, 3) := by decide +kernel
theorem dX0_earliest_14 : decode cX0_earliest 14 = .ok (.athrow, 1) := by decide +kernel
theorem dX0_earliest_15 : decode cX0_earliest 15 = .ok (.aload_n 0, 1) := by decide +kernel
theorem dX0_earliest_16 : decode cX0_earliest 16 = .ok (.iconst 0, 1) := by decide +kernel
theorem dX0_earliest_17 : decode cX0_earliest 17 = .ok (.invokevirtual 57, 3) := by decide +kernel
theorem dX0_earliest_20 : decode cX0_earliest 20 = .ok (.aload_n 0, 1) := by decide +kernel
theorem dX0_earliest_21 : decode cX0_earliest 21 = .ok (.getfield 24, 3) := by decide +kernel
theorem dX0_earliest_24 : decode cX0_earliest 24 = .ok (.iload_n 1, 1) := by decide +kernel
theorem dX0_earliest_25 : decode cX0_earliest 25 = .ok (.laload, 1) := by decide +kernel
theorem dX0_earliest_26 : decode cX0_earliest 26 = .ok (.ldc2_w 75, 3) := by decide +kernel
theorem dX0_earliest_29 : decode cX0_earliest 29 = .ok (.lcmp, 1) := by decide +kernel
theorem dX0_earliest_30 : decode cX0_earliest 30 = .ok (.ifCond .ne 9, 3) := by decide +kernel
theorem dX0_earliest_33 : decode cX0_earliest 33 = .ok (.ldc2_w 77, 3) := by decide +kernel
theorem dX0_earliest_36 : decode cX0_earliest 36 = .ok (.goto 10, 3) := by decide +kernel
theorem dX0_earliest_39 : decode cX0_earliest 39 = .ok (.aload_n 0, 1) := by decide +kernel
theorem dX0_earliest_40 : decode cX0_earliest 40 = .ok (.getfield 24, 3) := by decide +kernel
theorem dX0_earliest_43 : decode cX0_earliest 43 = .ok (.iload_n 1, 1) := by decide +kernel
theorem dX0_earliest_44 : decode cX0_earliest 44 = .ok (.laload, 1) := by decide +kernel
theorem dX0_earliest_45 : decode cX0_earliest 45 = .ok (.lneg, 1) := by decide +kernel
theorem dX0_earliest_46 : decode cX0_earliest 46 = .ok (.lreturn, 1) := by decide +kernel
theorem dX0_slack_0 : decode cX0_slack 0 = .ok (.aload_n 0, 1) := by decide +kernel
theorem dX0_slack_1 : decode cX0_slack 1 = .ok (.iload_n 1, 1) := by decide +kernel
theorem dX0_slack_2 : decode cX0_slack 2 = .ok (.invokevirtual 47, 3) := by decide +kernel
theorem dX0_slack_5 : decode cX0_slack 5 = .ok (.ifCond .eq 12, 3) := by decide +kernel
theorem dX0_slack_8 : decode cX0_slack 8 = .ok (.aload_n 0, 1) := by decide +kernel
theorem dX0_slack_9 : decode cX0_slack 9 = .ok (.getfield 20, 3) := by decide +kernel
theorem dX0_slack_12 : decode cX0_slack 12 = .ok (.iload_n 1, 1) := by decide +kernel
theorem dX0_slack_13 : decode cX0_slack 13 = .ok (.baload, 1) := by decide +kernel
theorem dX0_slack_14 : decode cX0_slack 14 = .ok (.ifCond .ne 7, 3) := by decide +kernel
theorem dX0_slack_17 : decode cX0_slack 17 = .ok (.ldc2_w 79, 3) := by decide +kernel
theorem dX0_slack_20 : decode cX0_slack 20 = .ok (.lreturn, 1) := by decide +kernel
theorem dX0_slack_21 : decode cX0_slack 21 = .ok (.aload_n 0, 1) := by decide +kernel
theorem dX0_slack_22 : decode cX0_slack 22 = .ok (.aload_n 0, 1) := by decide +kernel
theorem dX0_slack_23 : decode cX0_slack 23 = .ok (.getfield 13, 3) := by decide +kernel
theorem dX0_slack_26 : decode cX0_slack 26 = .ok (.iload_n 1, 1) := by decide +kernel
theorem dX0_slack_27 : decode cX0_slack 27 = .ok (.iaload, 1) := by decide +kernel
theorem dX0_slack_28 : decode cX0_slack 28 = .ok (.invokevirtual 57, 3) := by decide +kernel
theorem dX0_slack_31 : decode cX0_slack 31 = .ok (.aload_n 0, 1) := by decide +kernel
theorem dX0_slack_32 : decode cX0_slack 32 = .ok (.getfield 16, 3) := by decide +kernel
theorem dX0_slack_35 : decode cX0_slack 35 = .ok (.iload_n 1, 1) := by decide +kernel
theorem dX0_slack_36 : decode cX0_slack 36 = .ok (.laload, 1) := by decide +kernel
theorem dX0_slack_37 : decode cX0_slack 37 = .ok (.aload_n 0, 1) := by decide +kernel
theorem dX0_slack_38 : decode cX0_slack 38 = .ok (.getfield 24, 3) := by decide +kernel
theorem dX0_slack_41 : decode cX0_slack 41 = .ok (.aload_n 0, 1) := by decide +kernel
theorem dX0_slack_42 : decode cX0_slack 42 = .ok (.getfield 9, 3) := by decide +kernel
theorem dX0_slack_45 : decode cX0_slack 45 = .ok (.iload_n 1, 1) := by decide +kernel
theorem dX0_slack_46 : decode cX0_slack 46 = .ok (.iaload, 1) := by decide +kernel
theorem dX0_slack_47 : decode cX0_slack 47 = .ok (.laload, 1) := by decide +kernel
theorem dX0_slack_48 : decode cX0_slack 48 = .ok (.lsub, 1) := by decide +kernel
theorem dX0_slack_49 : decode cX0_slack 49 = .ok (.lreturn, 1) := by decide +kernel
theorem dX0_alive_0 : decode cX0_alive 0 = .ok (.aload_n 0, 1) := by decide +kernel
theorem dX0_alive_1 : decode cX0_alive 1 = .ok (.getfield 44, 3) := by decide +kernel
theorem dX0_alive_4 : decode cX0_alive 4 = .ok (.ireturn, 1) := by decide +kernel
theorem dX0_isPoint_0 : decode cX0_isPoint 0 = .ok (.iload_n 0, 1) := by decide +kernel
theorem dX0_isPoint_1 : decode cX0_isPoint 1 = .ok (.ifCond .lt 13, 3) := by decide +kernel
theorem dX0_isPoint_4 : decode cX0_isPoint 4 = .ok (.iload_n 0, 1) := by decide +kernel
theorem dX0_isPoint_5 : decode cX0_isPoint 5 = .ok (.bipush 20, 2) := by decide +kernel
theorem dX0_isPoint_7 : decode cX0_isPoint 7 = .ok (.if_icmp .ge 7, 3) := by decide +kernel
theorem dX0_isPoint_10 : decode cX0_isPoint 10 = .ok (.iconst 1, 1) := by decide +kernel
theorem dX0_isPoint_11 : decode cX0_isPoint 11 = .ok (.goto 4, 3) := by decide +kernel
theorem dX0_isPoint_14 : decode cX0_isPoint 14 = .ok (.iconst 0, 1) := by decide +kernel
theorem dX0_isPoint_15 : decode cX0_isPoint 15 = .ok (.ireturn, 1) := by decide +kernel
theorem dX0_isConstraint_0 : decode cX0_isConstraint 0 = .ok (.iload_n 0, 1) := by decide +kernel
theorem dX0_isConstraint_1 : decode cX0_isConstraint 1 = .ok (.invokestatic 51, 3) := by decide +kernel
theorem dX0_isConstraint_4 : decode cX0_isConstraint 4 = .ok (.ifCond .eq 35, 3) := by decide +kernel
theorem dX0_isConstraint_7 : decode cX0_isConstraint 7 = .ok (.iload_n 1, 1) := by decide +kernel
theorem dX0_isConstraint_8 : decode cX0_isConstraint 8 = .ok (.invokestatic 51, 3) := by decide +kernel
theorem dX0_isConstraint_11 : decode cX0_isConstraint 11 = .ok (.ifCond .eq 28, 3) := by decide +kernel
theorem dX0_isConstraint_14 : decode cX0_isConstraint 14 = .ok (.iload_n 0, 1) := by decide +kernel
theorem dX0_isConstraint_15 : decode cX0_isConstraint 15 = .ok (.iload_n 1, 1) := by decide +kernel
theorem dX0_isConstraint_16 : decode cX0_isConstraint 16 = .ok (.if_icmp .eq 23, 3) := by decide +kernel
theorem dX0_isConstraint_19 : decode cX0_isConstraint 19 = .ok (.lload_n 2, 1) := by decide +kernel
theorem dX0_isConstraint_20 : decode cX0_isConstraint 20 = .ok (.ldc2_w 81, 3) := by decide +kernel
theorem dX0_isConstraint_23 : decode cX0_isConstraint 23 = .ok (.lcmp, 1) := by decide +kernel
theorem dX0_isConstraint_24 : decode cX0_isConstraint 24 = .ok (.ifCond .lt 15, 3) := by decide +kernel
theorem dX0_isConstraint_27 : decode cX0_isConstraint 27 = .ok (.lload_n 2, 1) := by decide +kernel
theorem dX0_isConstraint_28 : decode cX0_isConstraint 28 = .ok (.ldc2_w 83, 3) := by decide +kernel
theorem dX0_isConstraint_31 : decode cX0_isConstraint 31 = .ok (.lcmp, 1) := by decide +kernel
theorem dX0_isConstraint_32 : decode cX0_isConstraint 32 = .ok (.ifCond .gt 7, 3) := by decide +kernel
theorem dX0_isConstraint_35 : decode cX0_isConstraint 35 = .ok (.iconst 1, 1) := by decide +kernel
theorem dX0_isConstraint_36 : decode cX0_isConstraint 36 = .ok (.goto 4, 3) := by decide +kernel
theorem dX0_isConstraint_39 : decode cX0_isConstraint 39 = .ok (.iconst 0, 1) := by decide +kernel
theorem dX0_isConstraint_40 : decode cX0_isConstraint 40 = .ok (.ireturn, 1) := by decide +kernel
theorem dX0_isNumber_0 : decode cX0_isNumber 0 = .ok (.iload_n 1, 1) := by decide +kernel
theorem dX0_isNumber_1 : decode cX0_isNumber 1 = .ok (.ifCond .lt 15, 3) := by decide +kernel
theorem dX0_isNumber_4 : decode cX0_isNumber 4 = .ok (.iload_n 1, 1) := by decide +kernel
theorem dX0_isNumber_5 : decode cX0_isNumber 5 = .ok (.aload_n 0, 1) := by decide +kernel
theorem dX0_isNumber_6 : decode cX0_isNumber 6 = .ok (.getfield 33, 3) := by decide +kernel
theorem dX0_isNumber_9 : decode cX0_isNumber 9 = .ok (.if_icmp .ge 7, 3) := by decide +kernel
theorem dX0_isNumber_12 : decode cX0_isNumber 12 = .ok (.iconst 1, 1) := by decide +kernel
theorem dX0_isNumber_13 : decode cX0_isNumber 13 = .ok (.goto 4, 3) := by decide +kernel
theorem dX0_isNumber_16 : decode cX0_isNumber 16 = .ok (.iconst 0, 1) := by decide +kernel
theorem dX0_isNumber_17 : decode cX0_isNumber 17 = .ok (.ireturn, 1) := by decide +kernel
theorem dX0_refuse_0 : decode cX0_refuse 0 = .ok (.aload_n 0, 1) := by decide +kernel
theorem dX0_refuse_1 : decode cX0_refuse 1 = .ok (.iload_n 2, 1) := by decide +kernel
theorem dX0_refuse_2 : decode cX0_refuse 2 = .ok (.iload_n 1, 1) := by decide +kernel
theorem dX0_refuse_3 : decode cX0_refuse 3 = .ok (.invokevirtual 61, 3) := by decide +kernel
theorem dX0_refuse_6 : decode cX0_refuse 6 = .ok (.ifCond .eq 16, 3) := by decide +kernel
theorem dX0_refuse_9 : decode cX0_refuse 9 = .ok (.aload_n 0, 1) := by decide +kernel
theorem dX0_refuse_10 : decode cX0_refuse 10 = .ok (.getfield 24, 3) := by decide +kernel
theorem dX0_refuse_13 : decode cX0_refuse 13 = .ok (.iload_n 2, 1) := by decide +kernel
theorem dX0_refuse_14 : decode cX0_refuse 14 = .ok (.laload, 1) := by decide +kernel
theorem dX0_refuse_15 : decode cX0_refuse 15 = .ok (.lload_n 3, 1) := by decide +kernel
theorem dX0_refuse_16 : decode cX0_refuse 16 = .ok (.ladd, 1) := by decide +kernel
theorem dX0_refuse_17 : decode cX0_refuse 17 = .ok (.lconst 0, 1) := by decide +kernel
theorem dX0_refuse_18 : decode cX0_refuse 18 = .ok (.lcmp, 1) := by decide +kernel
theorem dX0_refuse_19 : decode cX0_refuse 19 = .ok (.ifCond .lt 5, 3) := by decide +kernel
theorem dX0_refuse_22 : decode cX0_refuse 22 = .ok (.iconst 0, 1) := by decide +kernel
theorem dX0_refuse_23 : decode cX0_refuse 23 = .ok (.ireturn, 1) := by decide +kernel
theorem dX0_refuse_24 : decode cX0_refuse 24 = .ok (.aload_n 0, 1) := by decide +kernel
theorem dX0_refuse_25 : decode cX0_refuse 25 = .ok (.iconst 0, 1) := by decide +kernel
theorem dX0_refuse_26 : decode cX0_refuse 26 = .ok (.putfield 65, 3) := by decide +kernel
theorem dX0_refuse_29 : decode cX0_refuse 29 = .ok (.aload_n 0, 1) := by decide +kernel
theorem dX0_refuse_30 : decode cX0_refuse 30 = .ok (.iload_n 1, 1) := by decide +kernel
theorem dX0_refuse_31 : decode cX0_refuse 31 = .ok (.invokevirtual 85, 3) := by decide +kernel
theorem dX0_refuse_34 : decode cX0_refuse 34 = .ok (.aload_n 0, 1) := by decide +kernel
theorem dX0_refuse_35 : decode cX0_refuse 35 = .ok (.iload_n 2, 1) := by decide +kernel
theorem dX0_refuse_36 : decode cX0_refuse 36 = .ok (.invokevirtual 68, 3) := by decide +kernel
theorem dX0_refuse_39 : decode cX0_refuse 39 = .ok (.aload_n 0, 1) := by decide +kernel
theorem dX0_refuse_40 : decode cX0_refuse 40 = .ok (.aload_n 0, 1) := by decide +kernel
theorem dX0_refuse_41 : decode cX0_refuse 41 = .ok (.getfield 24, 3) := by decide +kernel
theorem dX0_refuse_44 : decode cX0_refuse 44 = .ok (.iload_n 2, 1) := by decide +kernel
theorem dX0_refuse_45 : decode cX0_refuse 45 = .ok (.laload, 1) := by decide +kernel
theorem dX0_refuse_46 : decode cX0_refuse 46 = .ok (.lload_n 3, 1) := by decide +kernel
theorem dX0_refuse_47 : decode cX0_refuse 47 = .ok (.ladd, 1) := by decide +kernel
theorem dX0_refuse_48 : decode cX0_refuse 48 = .ok (.putfield 71, 3) := by decide +kernel
theorem dX0_refuse_51 : decode cX0_refuse 51 = .ok (.iconst 1, 1) := by decide +kernel
theorem dX0_refuse_52 : decode cX0_refuse 52 = .ok (.ireturn, 1) := by decide +kernel
theorem dX0_findPath_0 : decode cX0_findPath 0 = .ok (.iload_n 1, 1) := by decide +kernel
theorem dX0_findPath_1 : decode cX0_findPath 1 = .ok (.invokestatic 51, 3) := by decide +kernel
theorem dX0_findPath_4 : decode cX0_findPath 4 = .ok (.ifCond .eq 10, 3) := by decide +kernel
theorem dX0_findPath_7 : decode cX0_findPath 7 = .ok (.iload_n 2, 1) := by decide +kernel
theorem dX0_findPath_8 : decode cX0_findPath 8 = .ok (.invokestatic 51, 3) := by decide +kernel
theorem dX0_findPath_11 : decode cX0_findPath 11 = .ok (.ifCond .ne 5, 3) := by decide +kernel
theorem dX0_findPath_14 : decode cX0_findPath 14 = .ok (.iconst 0, 1) := by decide +kernel
theorem dX0_findPath_15 : decode cX0_findPath 15 = .ok (.ireturn, 1) := by decide +kernel
theorem dX0_findPath_16 : decode cX0_findPath 16 = .ok (.aload_n 0, 1) := by decide +kernel
theorem dX0_findPath_17 : decode cX0_findPath 17 = .ok (.iload_n 2, 1) := by decide +kernel
theorem dX0_findPath_18 : decode cX0_findPath 18 = .ok (.invokevirtual 57, 3) := by decide +kernel
theorem dX0_findPath_21 : decode cX0_findPath 21 = .ok (.aload_n 0, 1) := by decide +kernel
theorem dX0_findPath_22 : decode cX0_findPath 22 = .ok (.getfield 24, 3) := by decide +kernel
theorem dX0_findPath_25 : decode cX0_findPath 25 = .ok (.iload_n 1, 1) := by decide +kernel
theorem dX0_findPath_26 : decode cX0_findPath 26 = .ok (.laload, 1) := by decide +kernel
theorem dX0_findPath_27 : decode cX0_findPath 27 = .ok (.ldc2_w 75, 3) := by decide +kernel
theorem dX0_findPath_30 : decode cX0_findPath 30 = .ok (.lcmp, 1) := by decide +kernel
theorem dX0_findPath_31 : decode cX0_findPath 31 = .ok (.ifCond .eq 7, 3) := by decide +kernel
theorem dX0_findPath_34 : decode cX0_findPath 34 = .ok (.iconst 1, 1) := by decide +kernel
theorem dX0_findPath_35 : decode cX0_findPath 35 = .ok (.goto 4, 3) := by decide +kernel
theorem dX0_findPath_38 : decode cX0_findPath 38 = .ok (.iconst 0, 1) := by decide +kernel
theorem dX0_findPath_39 : decode cX0_findPath 39 = .ok (.ireturn, 1) := by decide +kernel
theorem dX0_measureTo_0 : decode cX0_measureTo 0 = .ok (.iconst 0, 1) := by decide +kernel
theorem dX0_measureTo_1 : decode cX0_measureTo 1 = .ok (.istore_n 2, 1) := by decide +kernel
theorem dX0_measureTo_2 : decode cX0_measureTo 2 = .ok (.iload_n 2, 1) := by decide +kernel
theorem dX0_measureTo_3 : decode cX0_measureTo 3 = .ok (.bipush 20, 2) := by decide +kernel
theorem dX0_measureTo_5 : decode cX0_measureTo 5 = .ok (.if_icmp .ge 25, 3) := by decide +kernel
theorem dX0_measureTo_8 : decode cX0_measureTo 8 = .ok (.aload_n 0, 1) := by decide +kernel
theorem dX0_measureTo_9 : decode cX0_measureTo 9 = .ok (.getfield 24, 3) := by decide +kernel
theorem dX0_measureTo_12 : decode cX0_measureTo 12 = .ok (.iload_n 2, 1) := by decide +kernel
theorem dX0_measureTo_13 : decode cX0_measureTo 13 = .ok (.ldc2_w 75, 3) := by decide +kernel
theorem dX0_measureTo_16 : decode cX0_measureTo 16 = .ok (.lastore, 1) := by decide +kernel
theorem dX0_measureTo_17 : decode cX0_measureTo 17 = .ok (.aload_n 0, 1) := by decide +kernel
theorem dX0_measureTo_18 : decode cX0_measureTo 18 = .ok (.getfield 27, 3) := by decide +kernel
theorem dX0_measureTo_21 : decode cX0_measureTo 21 = .ok (.iload_n 2, 1) := by decide +kernel
theorem dX0_measureTo_22 : decode cX0_measureTo 22 = .ok (.iconst (-1), 1) := by decide +kernel
theorem dX0_measureTo_23 : decode cX0_measureTo 23 = .ok (.iastore, 1) := by decide +kernel
theorem dX0_measureTo_24 : decode cX0_measureTo 24 = .ok (.iinc 2 1, 3) := by decide +kernel
theorem dX0_measureTo_27 : decode cX0_measureTo 27 = .ok (.goto (-25), 3) := by decide +kernel
theorem dX0_measureTo_30 : decode cX0_measureTo 30 = .ok (.aload_n 0, 1) := by decide +kernel
theorem dX0_measureTo_31 : decode cX0_measureTo 31 = .ok (.getfield 24, 3) := by decide +kernel
theorem dX0_measureTo_34 : decode cX0_measureTo 34 = .ok (.iload_n 1, 1) := by decide +kernel
theorem dX0_measureTo_35 : decode cX0_measureTo 35 = .ok (.lconst 0, 1) := by decide +kernel
theorem dX0_measureTo_36 : decode cX0_measureTo 36 = .ok (.lastore, 1) := by decide +kernel
theorem dX0_measureTo_37 : decode cX0_measureTo 37 = .ok (.aload_n 0, 1) := by decide +kernel
theorem dX0_measureTo_38 : decode cX0_measureTo 38 = .ok (.getfield 27, 3) := by decide +kernel
theorem dX0_measureTo_41 : decode cX0_measureTo 41 = .ok (.iload_n 1, 1) := by decide +kernel
theorem dX0_measureTo_42 : decode cX0_measureTo 42 = .ok (.iconst 0, 1) := by decide +kernel
theorem dX0_measureTo_43 : decode cX0_measureTo 43 = .ok (.iastore, 1) := by decide +kernel
theorem dX0_measureTo_44 : decode cX0_measureTo 44 = .ok (.iconst 1, 1) := by decide +kernel
theorem dX0_measureTo_45 : decode cX0_measureTo 45 = .ok (.istore_n 2, 1) := by decide +kernel
theorem dX0_measureTo_46 : decode cX0_measureTo 46 = .ok (.iconst 1, 1) := by decide +kernel
theorem dX0_measureTo_47 : decode cX0_measureTo 47 = .ok (.istore_n 3, 1) := by decide +kernel
theorem dX0_measureTo_48 : decode cX0_measureTo 48 = .ok (.iload_n 3, 1) := by decide +kernel
theorem dX0_measureTo_49 : decode cX0_measureTo 49 = .ok (.bipush 20, 2) := by decide +kernel
theorem dX0_measureTo_51 : decode cX0_measureTo 51 = .ok (.if_icmp .ge 18, 3) := by decide +kernel
theorem dX0_measureTo_54 : decode cX0_measureTo 54 = .ok (.iload_n 2, 1) := by decide +kernel
theorem dX0_measureTo_55 : decode cX0_measureTo 55 = .ok (.ifCond .eq 14, 3) := by decide +kernel
theorem dX0_measureTo_58 : decode cX0_measureTo 58 = .ok (.aload_n 0, 1) := by decide +kernel
theorem dX0_measureTo_59 : decode cX0_measureTo 59 = .ok (.invokevirtual 88, 3) := by decide +kernel
theorem dX0_measureTo_62 : decode cX0_measureTo 62 = .ok (.istore_n 2, 1) := by decide +kernel
theorem dX0_measureTo_63 : decode cX0_measureTo 63 = .ok (.iinc 3 1, 3) := by decide +kernel
theorem dX0_measureTo_66 : decode cX0_measureTo 66 = .ok (.goto (-18), 3) := by decide +kernel
theorem dX0_measureTo_69 : decode cX0_measureTo 69 = .ok (.return_, 1) := by decide +kernel
theorem dX0_improveAll_0 : decode cX0_improveAll 0 = .ok (.iconst 0, 1) := by decide +kernel
theorem dX0_improveAll_1 : decode cX0_improveAll 1 = .ok (.istore_n 1, 1) := by decide +kernel
theorem dX0_improveAll_2 : decode cX0_improveAll 2 = .ok (.iconst 0, 1) := by decide +kernel
theorem dX0_improveAll_3 : decode cX0_improveAll 3 = .ok (.istore_n 2, 1) := by decide +kernel
theorem dX0_improveAll_4 : decode cX0_improveAll 4 = .ok (.iload_n 2, 1) := by decide +kernel
theorem dX0_improveAll_5 : decode cX0_improveAll 5 = .ok (.aload_n 0, 1) := by decide +kernel
theorem dX0_improveAll_6 : decode cX0_improveAll 6 = .ok (.getfield 33, 3) := by decide +kernel
theorem dX0_improveAll_9 : decode cX0_improveAll 9 = .ok (.if_icmp .ge 28, 3) := by decide +kernel
theorem dX0_improveAll_12 : decode cX0_improveAll 12 = .ok (.aload_n 0, 1) := by decide +kernel
theorem dX0_improveAll_13 : decode cX0_improveAll 13 = .ok (.getfield 20, 3) := by decide +kernel
theorem dX0_improveAll_16 : decode cX0_improveAll 16 = .ok (.iload_n 2, 1) := by decide +kernel
theorem dX0_improveAll_17 : decode cX0_improveAll 17 = .ok (.baload, 1) := by decide +kernel
theorem dX0_improveAll_18 : decode cX0_improveAll 18 = .ok (.ifCond .eq 13, 3) := by decide +kernel
theorem dX0_improveAll_21 : decode cX0_improveAll 21 = .ok (.aload_n 0, 1) := by decide +kernel
theorem dX0_improveAll_22 : decode cX0_improveAll 22 = .ok (.iload_n 2, 1) := by decide +kernel
theorem dX0_improveAll_23 : decode cX0_improveAll 23 = .ok (.invokevirtual 92, 3) := by decide +kernel
theorem dX0_improveAll_26 : decode cX0_improveAll 26 = .ok (.ifCond .eq 5, 3) := by decide +kernel
theorem dX0_improveAll_29 : decode cX0_improveAll 29 = .ok (.iconst 1, 1) := by decide +kernel
theorem dX0_improveAll_30 : decode cX0_improveAll 30 = .ok (.istore_n 1, 1) := by decide +kernel
theorem dX0_improveAll_31 : decode cX0_improveAll 31 = .ok (.iinc 2 1, 3) := by decide +kernel
theorem dX0_improveAll_34 : decode cX0_improveAll 34 = .ok (.goto (-30), 3) := by decide +kernel
theorem dX0_improveAll_37 : decode cX0_improveAll 37 = .ok (.iload_n 1, 1) := by decide +kernel
theorem dX0_improveAll_38 : decode cX0_improveAll 38 = .ok (.ireturn, 1) := by decide +kernel
theorem dX0_improveBy_0 : decode cX0_improveBy 0 = .ok (.aload_n 0, 1) := by decide +kernel
theorem dX0_improveBy_1 : decode cX0_improveBy 1 = .ok (.getfield 9, 3) := by decide +kernel
theorem dX0_improveBy_4 : decode cX0_improveBy 4 = .ok (.iload_n 1, 1) := by decide +kernel
theorem dX0_improveBy_5 : decode cX0_improveBy 5 = .ok (.iaload, 1) := by decide +kernel
theorem dX0_improveBy_6 : decode cX0_improveBy 6 = .ok (.istore_n 2, 1) := by decide +kernel
theorem dX0_improveBy_7 : decode cX0_improveBy 7 = .ok (.aload_n 0, 1) := by decide +kernel
theorem dX0_improveBy_8 : decode cX0_improveBy 8 = .ok (.getfield 13, 3) := by decide +kernel
theorem dX0_improveBy_11 : decode cX0_improveBy 11 = .ok (.iload_n 1, 1) := by decide +kernel
theorem dX0_improveBy_12 : decode cX0_improveBy 12 = .ok (.iaload, 1) := by decide +kernel
theorem dX0_improveBy_13 : decode cX0_improveBy 13 = .ok (.istore_n 3, 1) := by decide +kernel
theorem dX0_improveBy_14 : decode cX0_improveBy 14 = .ok (.aload_n 0, 1) := by decide +kernel
theorem dX0_improveBy_15 : decode cX0_improveBy 15 = .ok (.getfield 24, 3) := by decide +kernel
theorem dX0_improveBy_18 : decode cX0_improveBy 18 = .ok (.iload_n 3, 1) := by decide +kernel
theorem dX0_improveBy_19 : decode cX0_improveBy 19 = .ok (.laload, 1) := by decide +kernel
theorem dX0_improveBy_20 : decode cX0_improveBy 20 = .ok (.ldc2_w 75, 3) := by decide +kernel
theorem dX0_improveBy_23 : decode cX0_improveBy 23 = .ok (.lcmp, 1) := by decide +kernel
theorem dX0_improveBy_24 : decode cX0_improveBy 24 = .ok (.ifCond .ne 5, 3) := by decide +kernel
theorem dX0_improveBy_27 : decode cX0_improveBy 27 = .ok (.iconst 0, 1) := by decide +kernel
theorem dX0_improveBy_28 : decode cX0_improveBy 28 = .ok (.ireturn, 1) := by decide +kernel
theorem dX0_improveBy_29 : decode cX0_improveBy 29 = .ok (.aload_n 0, 1) := by decide +kernel
theorem dX0_improveBy_30 : decode cX0_improveBy 30 = .ok (.getfield 16, 3) := by decide +kernel
theorem dX0_improveBy_33 : decode cX0_improveBy 33 = .ok (.iload_n 1, 1) := by decide +kernel
theorem dX0_improveBy_34 : decode cX0_improveBy 34 = .ok (.laload, 1) := by decide +kernel
theorem dX0_improveBy_35 : decode cX0_improveBy 35 = .ok (.aload_n 0, 1) := by decide +kernel
theorem dX0_improveBy_36 : decode cX0_improveBy 36 = .ok (.getfield 24, 3) := by decide +kernel
theorem dX0_improveBy_39 : decode cX0_improveBy 39 = .ok (.iload_n 3, 1) := by decide +kernel
theorem dX0_improveBy_40 : decode cX0_improveBy 40 = .ok (.laload, 1) := by decide +kernel
theorem dX0_improveBy_41 : decode cX0_improveBy 41 = .ok (.ladd, 1) := by decide +kernel
theorem dX0_improveBy_42 : decode cX0_improveBy 42 = .ok (.lstore 4, 2) := by decide +kernel
theorem dX0_improveBy_44 : decode cX0_improveBy 44 = .ok (.aload_n 0, 1) := by decide +kernel
theorem dX0_improveBy_45 : decode cX0_improveBy 45 = .ok (.getfield 27, 3) := by decide +kernel
theorem dX0_improveBy_48 : decode cX0_improveBy 48 = .ok (.iload_n 3, 1) := by decide +kernel
theorem dX0_improveBy_49 : decode cX0_improveBy 49 = .ok (.iaload, 1) := by decide +kernel
theorem dX0_improveBy_50 : decode cX0_improveBy 50 = .ok (.iconst 1, 1) := by decide +kernel
theorem dX0_improveBy_51 : decode cX0_improveBy 51 = .ok (.iadd, 1) := by decide +kernel
theorem dX0_improveBy_52 : decode cX0_improveBy 52 = .ok (.istore 6, 2) := by decide +kernel
theorem dX0_improveBy_54 : decode cX0_improveBy 54 = .ok (.lload 4, 2) := by decide +kernel
theorem dX0_improveBy_56 : decode cX0_improveBy 56 = .ok (.aload_n 0, 1) := by decide +kernel
theorem dX0_improveBy_57 : decode cX0_improveBy 57 = .ok (.getfield 24, 3) := by decide +kernel
theorem dX0_improveBy_60 : decode cX0_improveBy 60 = .ok (.iload_n 2, 1) := by decide +kernel
theorem dX0_improveBy_61 : decode cX0_improveBy 61 = .ok (.laload, 1) := by decide +kernel
theorem dX0_improveBy_62 : decode cX0_improveBy 62 = .ok (.lcmp, 1) := by decide +kernel
theorem dX0_improveBy_63 : decode cX0_improveBy 63 = .ok (.ifCond .lt 26, 3) := by decide +kernel
theorem dX0_improveBy_66 : decode cX0_improveBy 66 = .ok (.lload 4, 2) := by decide +kernel
theorem dX0_improveBy_68 : decode cX0_improveBy 68 = .ok (.aload_n 0, 1) := by decide +kernel
theorem dX0_improveBy_69 : decode cX0_improveBy 69 = .ok (.getfield 24, 3) := by decide +kernel
theorem dX0_improveBy_72 : decode cX0_improveBy 72 = .ok (.iload_n 2, 1) := by decide +kernel
theorem dX0_improveBy_73 : decode cX0_improveBy 73 = .ok (.laload, 1) := by decide +kernel
theorem dX0_improveBy_74 : decode cX0_improveBy 74 = .ok (.lcmp, 1) := by decide +kernel
theorem dX0_improveBy_75 : decode cX0_improveBy 75 = .ok (.ifCond .ne 18, 3) := by decide +kernel
theorem dX0_improveBy_78 : decode cX0_improveBy 78 = .ok (.iload 6, 2) := by decide +kernel
theorem dX0_improveBy_80 : decode cX0_improveBy 80 = .ok (.aload_n 0, 1) := by decide +kernel
theorem dX0_improveBy_81 : decode cX0_improveBy 81 = .ok (.getfield 27, 3) := by decide +kernel
theorem dX0_improveBy_84 : decode cX0_improveBy 84 = .ok (.iload_n 2, 1) := by decide +kernel
theorem dX0_improveBy_85 : decode cX0_improveBy 85 = .ok (.iaload, 1) := by decide +kernel
theorem dX0_improveBy_86 : decode cX0_improveBy 86 = .ok (.if_icmp .ge 7, 3) := by decide +kernel
theorem dX0_improveBy_89 : decode cX0_improveBy 89 = .ok (.iconst 1, 1) := by decide +kernel
theorem dX0_improveBy_90 : decode cX0_improveBy 90 = .ok (.goto 4, 3) := by decide +kernel
theorem dX0_improveBy_93 : decode cX0_improveBy 93 = .ok (.iconst 0, 1) := by decide +kernel
theorem dX0_improveBy_94 : decode cX0_improveBy 94 = .ok (.istore 7, 2) := by decide +kernel
theorem dX0_improveBy_96 : decode cX0_improveBy 96 = .ok (.iload 7, 2) := by decide +kernel
theorem dX0_improveBy_98 : decode cX0_improveBy 98 = .ok (.ifCond .eq 19, 3) := by decide +kernel
theorem dX0_improveBy_101 : decode cX0_improveBy 101 = .ok (.aload_n 0, 1) := by decide +kernel
theorem dX0_improveBy_102 : decode cX0_improveBy 102 = .ok (.getfield 24, 3) := by decide +kernel
theorem dX0_improveBy_105 : decode cX0_improveBy 105 = .ok (.iload_n 2, 1) := by decide +kernel
theorem dX0_improveBy_106 : decode cX0_improveBy 106 = .ok (.lload 4, 2) := by decide +kernel
theorem dX0_improveBy_108 : decode cX0_improveBy 108 = .ok (.lastore, 1) := by decide +kernel
theorem dX0_improveBy_109 : decode cX0_improveBy 109 = .ok (.aload_n 0, 1) := by decide +kernel
theorem dX0_improveBy_110 : decode cX0_improveBy 110 = .ok (.getfield 27, 3) := by decide +kernel
theorem dX0_improveBy_113 : decode cX0_improveBy 113 = .ok (.iload_n 2, 1) := by decide +kernel
theorem dX0_improveBy_114 : decode cX0_improveBy 114 = .ok (.iload 6, 2) := by decide +kernel
theorem dX0_improveBy_116 : decode cX0_improveBy 116 = .ok (.iastore, 1) := by decide +kernel
theorem dX0_improveBy_117 : decode cX0_improveBy 117 = .ok (.iload 7, 2) := by decide +kernel
theorem dX0_improveBy_119 : decode cX0_improveBy 119 = .ok (.ireturn, 1) := by decide +kernel
theorem dX0_appendBestFrom_0 : decode cX0_appendBestFrom 0 = .ok (.iload_n 1, 1) := by decide +kernel
theorem dX0_appendBestFrom_1 : decode cX0_appendBestFrom 1 = .ok (.istore_n 2, 1) := by decide +kernel
theorem dX0_appendBestFrom_2 : decode cX0_appendBestFrom 2 = .ok (.aload_n 0, 1) := by decide +kernel
theorem dX0_appendBestFrom_3 : decode cX0_appendBestFrom 3 = .ok (.iload_n 2, 1) := by decide +kernel
theorem dX0_appendBestFrom_4 : decode cX0_appendBestFrom 4 = .ok (.invokevirtual 85, 3) := by decide +kernel
theorem dX0_appendBestFrom_7 : decode cX0_appendBestFrom 7 = .ok (.aload_n 0, 1) := by decide +kernel
theorem dX0_appendBestFrom_8 : decode cX0_appendBestFrom 8 = .ok (.getfield 27, 3) := by decide +kernel
theorem dX0_appendBestFrom_11 : decode cX0_appendBestFrom 11 = .ok (.iload_n 1, 1) := by decide +kernel
theorem dX0_appendBestFrom_12 : decode cX0_appendBestFrom 12 = .ok (.iaload, 1) := by decide +kernel
theorem dX0_appendBestFrom_13 : decode cX0_appendBestFrom 13 = .ok (.istore_n 3, 1) := by decide +kernel
theorem dX0_appendBestFrom_14 : decode cX0_appendBestFrom 14 = .ok (.iload_n 3, 1) := by decide +kernel
theorem dX0_appendBestFrom_15 : decode cX0_appendBestFrom 15 = .ok (.ifCond .le 20, 3) := by decide +kernel
theorem dX0_appendBestFrom_18 : decode cX0_appendBestFrom 18 = .ok (.aload_n 0, 1) := by decide +kernel
theorem dX0_appendBestFrom_19 : decode cX0_appendBestFrom 19 = .ok (.iload_n 2, 1) := by decide +kernel
theorem dX0_appendBestFrom_20 : decode cX0_appendBestFrom 20 = .ok (.invokevirtual 95, 3) := by decide +kernel
theorem dX0_appendBestFrom_23 : decode cX0_appendBestFrom 23 = .ok (.istore_n 2, 1) := by decide +kernel
theorem dX0_appendBestFrom_24 : decode cX0_appendBestFrom 24 = .ok (.aload_n 0, 1) := by decide +kernel
theorem dX0_appendBestFrom_25 : decode cX0_appendBestFrom 25 = .ok (.iload_n 2, 1) := by decide +kernel
theorem dX0_appendBestFrom_26 : decode cX0_appendBestFrom 26 = .ok (.invokevirtual 85, 3) := by decide +kernel
theorem dX0_appendBestFrom_29 : decode cX0_appendBestFrom 29 = .ok (.iinc 3 (-1), 3) := by decide +kernel
theorem dX0_appendBestFrom_32 : decode cX0_appendBestFrom 32 = .ok (.goto (-18), 3) := by decide +kernel
theorem dX0_appendBestFrom_35 : decode cX0_appendBestFrom 35 = .ok (.return_, 1) := by decide +kernel
theorem dX0_append_0 : decode cX0_append 0 = .ok (.aload_n 0, 1) := by decide +kernel
theorem dX0_append_1 : decode cX0_append 1 = .ok (.getfield 65, 3) := by decide +kernel
theorem dX0_append_4 : decode cX0_append 4 = .ok (.aload_n 0, 1) := by decide +kernel
theorem dX0_append_5 : decode cX0_append 5 = .ok (.getfield 30, 3) := by decide +kernel
theorem dX0_append_8 : decode cX0_append 8 = .ok (.arraylength, 1) := by decide +kernel
theorem dX0_append_9 : decode cX0_append 9 = .ok (.if_icmp .ge 23, 3) := by decide +kernel
theorem dX0_append_12 : decode cX0_append 12 = .ok (.aload_n 0, 1) := by decide +kernel
theorem dX0_append_13 : decode cX0_append 13 = .ok (.getfield 30, 3) := by decide +kernel
theorem dX0_append_16 : decode cX0_append 16 = .ok (.aload_n 0, 1) := by decide +kernel
theorem dX0_append_17 : decode cX0_append 17 = .ok (.getfield 65, 3) := by decide +kernel
theorem dX0_append_20 : decode cX0_append 20 = .ok (.iload_n 1, 1) := by decide +kernel
theorem dX0_append_21 : decode cX0_append 21 = .ok (.iastore, 1) := by decide +kernel
theorem dX0_append_22 : decode cX0_append 22 = .ok (.aload_n 0, 1) := by decide +kernel
theorem dX0_append_23 : decode cX0_append 23 = .ok (.dup, 1) := by decide +kernel
theorem dX0_append_24 : decode cX0_append 24 = .ok (.getfield 65, 3) := by decide +kernel
theorem dX0_append_27 : decode cX0_append 27 = .ok (.iconst 1, 1) := by decide +kernel
theorem dX0_append_28 : decode cX0_append 28 = .ok (.iadd, 1) := by decide +kernel
theorem dX0_append_29 : decode cX0_append 29 = .ok (.putfield 65, 3) := by decide +kernel
theorem dX0_append_32 : decode cX0_append 32 = .ok (.return_, 1) := by decide +kernel
theorem dX0_nextOfBest_0 : decode cX0_nextOfBest 0 = .ok (.bipush 20, 2) := by decide +kernel
theorem dX0_nextOfBest_2 : decode cX0_nextOfBest 2 = .ok (.istore_n 2, 1) := by decide +kernel
theorem dX0_nextOfBest_3 : decode cX0_nextOfBest 3 = .ok (.iconst 0, 1) := by decide +kernel
theorem dX0_nextOfBest_4 : decode cX0_nextOfBest 4 = .ok (.istore_n 3, 1) := by decide +kernel
theorem dX0_nextOfBest_5 : decode cX0_nextOfBest 5 = .ok (.iload_n 3, 1) := by decide +kernel
theorem dX0_nextOfBest_6 : decode cX0_nextOfBest 6 = .ok (.aload_n 0, 1) := by decide +kernel
theorem dX0_nextOfBest_7 : decode cX0_nextOfBest 7 = .ok (.getfield 33, 3) := by decide +kernel
theorem dX0_nextOfBest_10 : decode cX0_nextOfBest 10 = .ok (.if_icmp .ge 53, 3) := by decide +kernel
theorem dX0_nextOfBest_13 : decode cX0_nextOfBest 13 = .ok (.aload_n 0, 1) := by decide +kernel
theorem dX0_nextOfBest_14 : decode cX0_nextOfBest 14 = .ok (.getfield 9, 3) := by decide +kernel
theorem dX0_nextOfBest_17 : decode cX0_nextOfBest 17 = .ok (.iload_n 3, 1) := by decide +kernel
theorem dX0_nextOfBest_18 : decode cX0_nextOfBest 18 = .ok (.iaload, 1) := by decide +kernel
theorem dX0_nextOfBest_19 : decode cX0_nextOfBest 19 = .ok (.iload_n 1, 1) := by decide +kernel
theorem dX0_nextOfBest_20 : decode cX0_nextOfBest 20 = .ok (.if_icmp .ne 37, 3) := by decide +kernel
theorem dX0_nextOfBest_23 : decode cX0_nextOfBest 23 = .ok (.aload_n 0, 1) := by decide +kernel
theorem dX0_nextOfBest_24 : decode cX0_nextOfBest 24 = .ok (.getfield 13, 3) := by decide +kernel
theorem dX0_nextOfBest_27 : decode cX0_nextOfBest 27 = .ok (.iload_n 3, 1) := by decide +kernel
theorem dX0_nextOfBest_28 : decode cX0_nextOfBest 28 = .ok (.iaload, 1) := by decide +kernel
theorem dX0_nextOfBest_29 : decode cX0_nextOfBest 29 = .ok (.iload_n 2, 1) := by decide +kernel
theorem dX0_nextOfBest_30 : decode cX0_nextOfBest 30 = .ok (.if_icmp .ge 27, 3) := by decide +kernel
theorem dX0_nextOfBest_33 : decode cX0_nextOfBest 33 = .ok (.aload_n 0, 1) := by decide +kernel
theorem dX0_nextOfBest_34 : decode cX0_nextOfBest 34 = .ok (.getfield 20, 3) := by decide +kernel
theorem dX0_nextOfBest_37 : decode cX0_nextOfBest 37 = .ok (.iload_n 3, 1) := by decide +kernel
theorem dX0_nextOfBest_38 : decode cX0_nextOfBest 38 = .ok (.baload, 1) := by decide +kernel
theorem dX0_nextOfBest_39 : decode cX0_nextOfBest 39 = .ok (.ifCond .eq 18, 3) := by decide +kernel
theorem dX0_nextOfBest_42 : decode cX0_nextOfBest 42 = .ok (.aload_n 0, 1) := by decide +kernel
theorem dX0_nextOfBest_43 : decode cX0_nextOfBest 43 = .ok (.iload_n 3, 1) := by decide +kernel
theorem dX0_nextOfBest_44 : decode cX0_nextOfBest 44 = .ok (.invokevirtual 99, 3) := by decide +kernel
theorem dX0_nextOfBest_47 : decode cX0_nextOfBest 47 = .ok (.ifCond .eq 10, 3) := by decide +kernel
theorem dX0_nextOfBest_50 : decode cX0_nextOfBest 50 = .ok (.aload_n 0, 1) := by decide +kernel
theorem dX0_nextOfBest_51 : decode cX0_nextOfBest 51 = .ok (.getfield 13, 3) := by decide +kernel
theorem dX0_nextOfBest_54 : decode cX0_nextOfBest 54 = .ok (.iload_n 3, 1) := by decide +kernel
theorem dX0_nextOfBest_55 : decode cX0_nextOfBest 55 = .ok (.iaload, 1) := by decide +kernel
theorem dX0_nextOfBest_56 : decode cX0_nextOfBest 56 = .ok (.istore_n 2, 1) := by decide +kernel
theorem dX0_nextOfBest_57 : decode cX0_nextOfBest 57 = .ok (.iinc 3 1, 3) := by decide +kernel
theorem dX0_nextOfBest_60 : decode cX0_nextOfBest 60 = .ok (.goto (-55), 3) := by decide +kernel
theorem dX0_nextOfBest_63 : decode cX0_nextOfBest 63 = .ok (.iload_n 2, 1) := by decide +kernel
theorem dX0_nextOfBest_64 : decode cX0_nextOfBest 64 = .ok (.ireturn, 1) := by decide +kernel
theorem dX0_beginsBest_0 : decode cX0_beginsBest 0 = .ok (.aload_n 0, 1) := by decide +kernel
theorem dX0_beginsBest_1 : decode cX0_beginsBest 1 = .ok (.getfield 9, 3) := by decide +kernel
theorem dX0_beginsBest_4 : decode cX0_beginsBest 4 = .ok (.iload_n 1, 1) := by decide +kernel
theorem dX0_beginsBest_5 : decode cX0_beginsBest 5 = .ok (.iaload, 1) := by decide +kernel
theorem dX0_beginsBest_6 : decode cX0_beginsBest 6 = .ok (.istore_n 2, 1) := by decide +kernel
theorem dX0_beginsBest_7 : decode cX0_beginsBest 7 = .ok (.aload_n 0, 1) := by decide +kernel
theorem dX0_beginsBest_8 : decode cX0_beginsBest 8 = .ok (.getfield 13, 3) := by decide +kernel
theorem dX0_beginsBest_11 : decode cX0_beginsBest 11 = .ok (.iload_n 1, 1) := by decide +kernel
theorem dX0_beginsBest_12 : decode cX0_beginsBest 12 = .ok (.iaload, 1) := by decide +kernel
theorem dX0_beginsBest_13 : decode cX0_beginsBest 13 = .ok (.istore_n 3, 1) := by decide +kernel
theorem dX0_beginsBest_14 : decode cX0_beginsBest 14 = .ok (.aload_n 0, 1) := by decide +kernel
theorem dX0_beginsBest_15 : decode cX0_beginsBest 15 = .ok (.getfield 24, 3) := by decide +kernel
theorem dX0_beginsBest_18 : decode cX0_beginsBest 18 = .ok (.iload_n 3, 1) := by decide +kernel
theorem dX0_beginsBest_19 : decode cX0_beginsBest 19 = .ok (.laload, 1) := by decide +kernel
theorem dX0_beginsBest_20 : decode cX0_beginsBest 20 = .ok (.ldc2_w 75, 3) := by decide +kernel
theorem dX0_beginsBest_23 : decode cX0_beginsBest 23 = .ok (.lcmp, 1) := by decide +kernel
theorem dX0_beginsBest_24 : decode cX0_beginsBest 24 = .ok (.ifCond .eq 47, 3) := by decide +kernel
theorem dX0_beginsBest_27 : decode cX0_beginsBest 27 = .ok (.aload_n 0, 1) := by decide +kernel
theorem dX0_beginsBest_28 : decode cX0_beginsBest 28 = .ok (.getfield 16, 3) := by decide +kernel
theorem dX0_beginsBest_31 : decode cX0_beginsBest 31 = .ok (.iload_n 1, 1) := by decide +kernel
theorem dX0_beginsBest_32 : decode cX0_beginsBest 32 = .ok (.laload, 1) := by decide +kernel
theorem dX0_beginsBest_33 : decode cX0_beginsBest 33 = .ok (.aload_n 0, 1) := by decide +kernel
theorem dX0_beginsBest_34 : decode cX0_beginsBest 34 = .ok (.getfield 24, 3) := by decide +kernel
theorem dX0_beginsBest_37 : decode cX0_beginsBest 37 = .ok (.iload_n 3, 1) := by decide +kernel
theorem dX0_beginsBest_38 : decode cX0_beginsBest 38 = .ok (.laload, 1) := by decide +kernel
theorem dX0_beginsBest_39 : decode cX0_beginsBest 39 = .ok (.ladd, 1) := by decide +kernel
theorem dX0_beginsBest_40 : decode cX0_beginsBest 40 = .ok (.aload_n 0, 1) := by decide +kernel
theorem dX0_beginsBest_41 : decode cX0_beginsBest 41 = .ok (.getfield 24, 3) := by decide +kernel
theorem dX0_beginsBest_44 : decode cX0_beginsBest 44 = .ok (.iload_n 2, 1) := by decide +kernel
theorem dX0_beginsBest_45 : decode cX0_beginsBest 45 = .ok (.laload, 1) := by decide +kernel
theorem dX0_beginsBest_46 : decode cX0_beginsBest 46 = .ok (.lcmp, 1) := by decide +kernel
theorem dX0_beginsBest_47 : decode cX0_beginsBest 47 = .ok (.ifCond .ne 24, 3) := by decide +kernel
theorem dX0_beginsBest_50 : decode cX0_beginsBest 50 = .ok (.aload_n 0, 1) := by decide +kernel
theorem dX0_beginsBest_51 : decode cX0_beginsBest 51 = .ok (.getfield 27, 3) := by decide +kernel
theorem dX0_beginsBest_54 : decode cX0_beginsBest 54 = .ok (.iload_n 3, 1) := by decide +kernel
theorem dX0_beginsBest_55 : decode cX0_beginsBest 55 = .ok (.iaload, 1) := by decide +kernel
theorem dX0_beginsBest_56 : decode cX0_beginsBest 56 = .ok (.iconst 1, 1) := by decide +kernel
theorem dX0_beginsBest_57 : decode cX0_beginsBest 57 = .ok (.iadd, 1) := by decide +kernel
theorem dX0_beginsBest_58 : decode cX0_beginsBest 58 = .ok (.aload_n 0, 1) := by decide +kernel
theorem dX0_beginsBest_59 : decode cX0_beginsBest 59 = .ok (.getfield 27, 3) := by decide +kernel
theorem dX0_beginsBest_62 : decode cX0_beginsBest 62 = .ok (.iload_n 2, 1) := by decide +kernel
theorem dX0_beginsBest_63 : decode cX0_beginsBest 63 = .ok (.iaload, 1) := by decide +kernel
theorem dX0_beginsBest_64 : decode cX0_beginsBest 64 = .ok (.if_icmp .ne 7, 3) := by decide +kernel
theorem dX0_beginsBest_67 : decode cX0_beginsBest 67 = .ok (.iconst 1, 1) := by decide +kernel
theorem dX0_beginsBest_68 : decode cX0_beginsBest 68 = .ok (.goto 4, 3) := by decide +kernel
theorem dX0_beginsBest_71 : decode cX0_beginsBest 71 = .ok (.iconst 0, 1) := by decide +kernel
theorem dX0_beginsBest_72 : decode cX0_beginsBest 72 = .ok (.ireturn, 1) := by decide +kernel
