theorem dX0_init_0 : decode cX0_init 0 = .ok (.aload_n 0, 1) := by decide +kernel
theorem dX0_init_1 : decode cX0_init 1 = .ok (.invokespecial 3, 3) := by decide +kernel
theorem dX0_init_4 : decode cX0_init 4 = .ok (.aload_n 0, 1) := by decide +kernel
theorem dX0_init_5 : decode cX0_init 5 = .ok (.bipush 8, 2) := by decide +kernel
theorem dX0_init_7 : decode cX0_init 7 = .ok (.newarray .int, 2) := by decide +kernel
theorem dX0_init_9 : decode cX0_init 9 = .ok (.putfield 9, 3) := by decide +kernel
theorem dX0_init_12 : decode cX0_init 12 = .ok (.aload_n 0, 1) := by decide +kernel
theorem dX0_init_13 : decode cX0_init 13 = .ok (.bipush 8, 2) := by decide +kernel
theorem dX0_init_15 : decode cX0_init 15 = .ok (.newarray .int, 2) := by decide +kernel
theorem dX0_init_17 : decode cX0_init 17 = .ok (.putfield 15, 3) := by decide +kernel
theorem dX0_init_20 : decode cX0_init 20 = .ok (.aload_n 0, 1) := by decide +kernel
theorem dX0_init_21 : decode cX0_init 21 = .ok (.bipush 8, 2) := by decide +kernel
theorem dX0_init_23 : decode cX0_init 23 = .ok (.newarray .int, 2) := by decide +kernel
theorem dX0_init_25 : decode cX0_init 25 = .ok (.putfield 18, 3) := by decide +kernel
theorem dX0_init_28 : decode cX0_init 28 = .ok (.aload_n 0, 1) := by decide +kernel
theorem dX0_init_29 : decode cX0_init 29 = .ok (.bipush 8, 2) := by decide +kernel
theorem dX0_init_31 : decode cX0_init 31 = .ok (.newarray .boolean, 2) := by decide +kernel
theorem dX0_init_33 : decode cX0_init 33 = .ok (.putfield 21, 3) := by decide +kernel
theorem dX0_init_36 : decode cX0_init 36 = .ok (.return_, 1) := by decide +kernel
theorem dX0_isStretch_0 : decode cX0_isStretch 0 = .ok (.aload_n 0, 1) := by decide +kernel
theorem dX0_isStretch_1 : decode cX0_isStretch 1 = .ok (.getfield 21, 3) := by decide +kernel
theorem dX0_isStretch_4 : decode cX0_isStretch 4 = .ok (.iload_n 1, 1) := by decide +kernel
theorem dX0_isStretch_5 : decode cX0_isStretch 5 = .ok (.baload, 1) := by decide +kernel
theorem dX0_isStretch_6 : decode cX0_isStretch 6 = .ok (.ireturn, 1) := by decide +kernel
theorem dX0_become_0 : decode cX0_become 0 = .ok (.aload_n 0, 1) := by decide +kernel
theorem dX0_become_1 : decode cX0_become 1 = .ok (.aload_n 1, 1) := by decide +kernel
theorem dX0_become_2 : decode cX0_become 2 = .ok (.getfield 25, 3) := by decide +kernel
theorem dX0_become_5 : decode cX0_become 5 = .ok (.putfield 25, 3) := by decide +kernel
theorem dX0_become_8 : decode cX0_become 8 = .ok (.aload_n 0, 1) := by decide +kernel
theorem dX0_become_9 : decode cX0_become 9 = .ok (.aload_n 1, 1) := by decide +kernel
theorem dX0_become_10 : decode cX0_become 10 = .ok (.getfield 29, 3) := by decide +kernel
theorem dX0_become_13 : decode cX0_become 13 = .ok (.putfield 29, 3) := by decide +kernel
theorem dX0_become_16 : decode cX0_become 16 = .ok (.aload_n 0, 1) := by decide +kernel
theorem dX0_become_17 : decode cX0_become 17 = .ok (.aload_n 1, 1) := by decide +kernel
theorem dX0_become_18 : decode cX0_become 18 = .ok (.getfield 32, 3) := by decide +kernel
theorem dX0_become_21 : decode cX0_become 21 = .ok (.putfield 32, 3) := by decide +kernel
theorem dX0_become_24 : decode cX0_become 24 = .ok (.iconst 0, 1) := by decide +kernel
theorem dX0_become_25 : decode cX0_become 25 = .ok (.istore_n 2, 1) := by decide +kernel
theorem dX0_become_26 : decode cX0_become 26 = .ok (.iload_n 2, 1) := by decide +kernel
theorem dX0_become_27 : decode cX0_become 27 = .ok (.bipush 8, 2) := by decide +kernel
theorem dX0_become_29 : decode cX0_become 29 = .ok (.if_icmp .ge 57, 3) := by decide +kernel
theorem dX0_become_32 : decode cX0_become 32 = .ok (.aload_n 0, 1) := by decide +kernel
theorem dX0_become_33 : decode cX0_become 33 = .ok (.getfield 9, 3) := by decide +kernel
theorem dX0_become_36 : decode cX0_become 36 = .ok (.iload_n 2, 1) := by decide +kernel
theorem dX0_become_37 : decode cX0_become 37 = .ok (.aload_n 1, 1) := by decide +kernel
theorem dX0_become_38 : decode cX0_become 38 = .ok (.getfield 9, 3) := by decide +kernel
theorem dX0_become_41 : decode cX0_become 41 = .ok (.iload_n 2, 1) := by decide +kernel
theorem dX0_become_42 : decode cX0_become 42 = .ok (.iaload, 1) := by decide +kernel
theorem dX0_become_43 : decode cX0_become 43 = .ok (.iastore, 1) := by decide +kernel
theorem dX0_become_44 : decode cX0_become 44 = .ok (.aload_n 0, 1) := by decide +kernel
theorem dX0_become_45 : decode cX0_become 45 = .ok (.getfield 15, 3) := by decide +kernel
theorem dX0_become_48 : decode cX0_become 48 = .ok (.iload_n 2, 1) := by decide +kernel
theorem dX0_become_49 : decode cX0_become 49 = .ok (.aload_n 1, 1) := by decide +kernel
theorem dX0_become_50 : decode cX0_become 50 = .ok (.getfield 15, 3) := by decide +kernel
theorem dX0_become_53 : decode cX0_become 53 = .ok (.iload_n 2, 1) := by decide +kernel
theorem dX0_become_54 : decode cX0_become 54 = .ok (.iaload, 1) := by decide +kernel
theorem dX0_become_55 : decode cX0_become 55 = .ok (.iastore, 1) := by decide +kernel
theorem dX0_become_56 : decode cX0_become 56 = .ok (.aload_n 0, 1) := by decide +kernel
theorem dX0_become_57 : decode cX0_become 57 = .ok (.getfield 18, 3) := by decide +kernel
theorem dX0_become_60 : decode cX0_become 60 = .ok (.iload_n 2, 1) := by decide +kernel
theorem dX0_become_61 : decode cX0_become 61 = .ok (.aload_n 1, 1) := by decide +kernel
theorem dX0_become_62 : decode cX0_become 62 = .ok (.getfield 18, 3) := by decide +kernel
theorem dX0_become_65 : decode cX0_become 65 = .ok (.iload_n 2, 1) := by decide +kernel
theorem dX0_become_66 : decode cX0_become 66 = .ok (.iaload, 1) := by decide +kernel
theorem dX0_become_67 : decode cX0_become 67 = .ok (.iastore, 1) := by decide +kernel
theorem dX0_become_68 : decode cX0_become 68 = .ok (.aload_n 0, 1) := by decide +kernel
theorem dX0_become_69 : decode cX0_become 69 = .ok (.getfield 21, 3) := by decide +kernel
theorem dX0_become_72 : decode cX0_become 72 = .ok (.iload_n 2, 1) := by decide +kernel
theorem dX0_become_73 : decode cX0_become 73 = .ok (.aload_n 1, 1) := by decide +kernel
theorem dX0_become_74 : decode cX0_become 74 = .ok (.getfield 21, 3) := by decide +kernel
theorem dX0_become_77 : decode cX0_become 77 = .ok (.iload_n 2, 1) := by decide +kernel
theorem dX0_become_78 : decode cX0_become 78 = .ok (.baload, 1) := by decide +kernel
theorem dX0_become_79 : decode cX0_become 79 = .ok (.bastore, 1) := by decide +kernel
theorem dX0_become_80 : decode cX0_become 80 = .ok (.iinc 2 1, 3) := by decide +kernel
theorem dX0_become_83 : decode cX0_become 83 = .ok (.goto (-57), 3) := by decide +kernel
theorem dX0_become_86 : decode cX0_become 86 = .ok (.return_, 1) := by decide +kernel
theorem dX0_read_0 : decode cX0_read 0 = .ok (.aload_n 0, 1) := by decide +kernel
theorem dX0_read_1 : decode cX0_read 1 = .ok (.iconst 0, 1) := by decide +kernel
theorem dX0_read_2 : decode cX0_read 2 = .ok (.putfield 25, 3) := by decide +kernel
theorem dX0_read_5 : decode cX0_read 5 = .ok (.aload_n 0, 1) := by decide +kernel
theorem dX0_read_6 : decode cX0_read 6 = .ok (.iconst 0, 1) := by decide +kernel
theorem dX0_read_7 : decode cX0_read 7 = .ok (.putfield 29, 3) := by decide +kernel
theorem dX0_read_10 : decode cX0_read 10 = .ok (.aload_n 0, 1) := by decide +kernel
theorem dX0_read_11 : decode cX0_read 11 = .ok (.iconst 0, 1) := by decide +kernel
theorem dX0_read_12 : decode cX0_read 12 = .ok (.putfield 32, 3) := by decide +kernel
theorem dX0_read_15 : decode cX0_read 15 = .ok (.aload_n 1, 1) := by decide +kernel
theorem dX0_read_16 : decode cX0_read 16 = .ok (.sipush 240, 3) := by decide +kernel
theorem dX0_read_19 : decode cX0_read 19 = .ok (.invokevirtual 35, 3) := by decide +kernel
theorem dX0_read_22 : decode cX0_read 22 = .ok (.iconst 0, 1) := by decide +kernel
theorem dX0_read_23 : decode cX0_read 23 = .ok (.istore_n 2, 1) := by decide +kernel
theorem dX0_read_24 : decode cX0_read 24 = .ok (.iload_n 2, 1) := by decide +kernel
theorem dX0_read_25 : decode cX0_read 25 = .ok (.bipush 8, 2) := by decide +kernel
theorem dX0_read_27 : decode cX0_read 27 = .ok (.if_icmp .gt 27, 3) := by decide +kernel
theorem dX0_read_30 : decode cX0_read 30 = .ok (.aload_n 1, 1) := by decide +kernel
theorem dX0_read_31 : decode cX0_read 31 = .ok (.getfield 41, 3) := by decide +kernel
theorem dX0_read_34 : decode cX0_read 34 = .ok (.iconst 1, 1) := by decide +kernel
theorem dX0_read_35 : decode cX0_read 35 = .ok (.if_icmp .eq 19, 3) := by decide +kernel
theorem dX0_read_38 : decode cX0_read 38 = .ok (.aload_n 0, 1) := by decide +kernel
theorem dX0_read_39 : decode cX0_read 39 = .ok (.aload_n 1, 1) := by decide +kernel
theorem dX0_read_40 : decode cX0_read 40 = .ok (.invokevirtual 44, 3) := by decide +kernel
theorem dX0_read_43 : decode cX0_read 43 = .ok (.ifCond .ne 5, 3) := by decide +kernel
theorem dX0_read_46 : decode cX0_read 46 = .ok (.iconst 0, 1) := by decide +kernel
theorem dX0_read_47 : decode cX0_read 47 = .ok (.ireturn, 1) := by decide +kernel
theorem dX0_read_48 : decode cX0_read 48 = .ok (.iinc 2 1, 3) := by decide +kernel
theorem dX0_read_51 : decode cX0_read 51 = .ok (.goto (-27), 3) := by decide +kernel
theorem dX0_read_54 : decode cX0_read 54 = .ok (.aload_n 0, 1) := by decide +kernel
theorem dX0_read_55 : decode cX0_read 55 = .ok (.getfield 32, 3) := by decide +kernel
theorem dX0_read_58 : decode cX0_read 58 = .ok (.sipush 3600, 3) := by decide +kernel
theorem dX0_read_61 : decode cX0_read 61 = .ok (.if_icmp .eq 11, 3) := by decide +kernel
theorem dX0_read_64 : decode cX0_read 64 = .ok (.aload_n 1, 1) := by decide +kernel
theorem dX0_read_65 : decode cX0_read 65 = .ok (.iconst 4, 1) := by decide +kernel
theorem dX0_read_66 : decode cX0_read 66 = .ok (.invokevirtual 48, 3) := by decide +kernel
theorem dX0_read_69 : decode cX0_read 69 = .ok (.ifCond .eq 7, 3) := by decide +kernel
theorem dX0_read_72 : decode cX0_read 72 = .ok (.iconst 1, 1) := by decide +kernel
theorem dX0_read_73 : decode cX0_read 73 = .ok (.goto 4, 3) := by decide +kernel
theorem dX0_read_76 : decode cX0_read 76 = .ok (.iconst 0, 1) := by decide +kernel
theorem dX0_read_77 : decode cX0_read 77 = .ok (.ireturn, 1) := by decide +kernel
theorem dX0_readOne_0 : decode cX0_readOne 0 = .ok (.aload_n 1, 1) := by decide +kernel
theorem dX0_readOne_1 : decode cX0_readOne 1 = .ok (.ldc 52, 2) := by decide +kernel
theorem dX0_readOne_3 : decode cX0_readOne 3 = .ok (.invokevirtual 54, 3) := by decide +kernel
theorem dX0_readOne_6 : decode cX0_readOne 6 = .ok (.istore_n 2, 1) := by decide +kernel
theorem dX0_readOne_7 : decode cX0_readOne 7 = .ok (.iload_n 2, 1) := by decide +kernel
theorem dX0_readOne_8 : decode cX0_readOne 8 = .ok (.ifCond .ne 18, 3) := by decide +kernel
theorem dX0_readOne_11 : decode cX0_readOne 11 = .ok (.aload_n 1, 1) := by decide +kernel
theorem dX0_readOne_12 : decode cX0_readOne 12 = .ok (.ldc 58, 2) := by decide +kernel
theorem dX0_readOne_14 : decode cX0_readOne 14 = .ok (.invokevirtual 54, 3) := by decide +kernel
theorem dX0_readOne_17 : decode cX0_readOne 17 = .ok (.ifCond .ne 9, 3) := by decide +kernel
theorem dX0_readOne_20 : decode cX0_readOne 20 = .ok (.aload_n 1, 1) := by decide +kernel
theorem dX0_readOne_21 : decode cX0_readOne 21 = .ok (.iconst 1, 1) := by decide +kernel
theorem dX0_readOne_22 : decode cX0_readOne 22 = .ok (.invokevirtual 48, 3) := by decide +kernel
theorem dX0_readOne_25 : decode cX0_readOne 25 = .ok (.ireturn, 1) := by decide +kernel
theorem dX0_readOne_26 : decode cX0_readOne 26 = .ok (.aload_n 0, 1) := by decide +kernel
theorem dX0_readOne_27 : decode cX0_readOne 27 = .ok (.getfield 25, 3) := by decide +kernel
theorem dX0_readOne_30 : decode cX0_readOne 30 = .ok (.bipush 8, 2) := by decide +kernel
theorem dX0_readOne_32 : decode cX0_readOne 32 = .ok (.if_icmp .lt 9, 3) := by decide +kernel
theorem dX0_readOne_35 : decode cX0_readOne 35 = .ok (.aload_n 1, 1) := by decide +kernel
theorem dX0_readOne_36 : decode cX0_readOne 36 = .ok (.iconst 3, 1) := by decide +kernel
theorem dX0_readOne_37 : decode cX0_readOne 37 = .ok (.invokevirtual 48, 3) := by decide +kernel
theorem dX0_readOne_40 : decode cX0_readOne 40 = .ok (.ireturn, 1) := by decide +kernel
theorem dX0_readOne_41 : decode cX0_readOne 41 = .ok (.aload_n 1, 1) := by decide +kernel
theorem dX0_readOne_42 : decode cX0_readOne 42 = .ok (.iconst 1, 1) := by decide +kernel
theorem dX0_readOne_43 : decode cX0_readOne 43 = .ok (.sipush 3600, 3) := by decide +kernel
theorem dX0_readOne_46 : decode cX0_readOne 46 = .ok (.invokevirtual 60, 3) := by decide +kernel
theorem dX0_readOne_49 : decode cX0_readOne 49 = .ok (.ifCond .ne 5, 3) := by decide +kernel
theorem dX0_readOne_52 : decode cX0_readOne 52 = .ok (.iconst 0, 1) := by decide +kernel
theorem dX0_readOne_53 : decode cX0_readOne 53 = .ok (.ireturn, 1) := by decide +kernel
theorem dX0_readOne_54 : decode cX0_readOne 54 = .ok (.aload_n 1, 1) := by decide +kernel
theorem dX0_readOne_55 : decode cX0_readOne 55 = .ok (.getfield 64, 3) := by decide +kernel
theorem dX0_readOne_58 : decode cX0_readOne 58 = .ok (.sipush 3600, 3) := by decide +kernel
theorem dX0_readOne_61 : decode cX0_readOne 61 = .ok (.aload_n 0, 1) := by decide +kernel
theorem dX0_readOne_62 : decode cX0_readOne 62 = .ok (.getfield 32, 3) := by decide +kernel
theorem dX0_readOne_65 : decode cX0_readOne 65 = .ok (.isub, 1) := by decide +kernel
theorem dX0_readOne_66 : decode cX0_readOne 66 = .ok (.if_icmp .le 9, 3) := by decide +kernel
theorem dX0_readOne_69 : decode cX0_readOne 69 = .ok (.aload_n 1, 1) := by decide +kernel
theorem dX0_readOne_70 : decode cX0_readOne 70 = .ok (.iconst 3, 1) := by decide +kernel
theorem dX0_readOne_71 : decode cX0_readOne 71 = .ok (.invokevirtual 48, 3) := by decide +kernel
theorem dX0_readOne_74 : decode cX0_readOne 74 = .ok (.ireturn, 1) := by decide +kernel
theorem dX0_readOne_75 : decode cX0_readOne 75 = .ok (.aload_n 0, 1) := by decide +kernel
theorem dX0_readOne_76 : decode cX0_readOne 76 = .ok (.iload_n 2, 1) := by decide +kernel
theorem dX0_readOne_77 : decode cX0_readOne 77 = .ok (.aload_n 1, 1) := by decide +kernel
theorem dX0_readOne_78 : decode cX0_readOne 78 = .ok (.getfield 64, 3) := by decide +kernel
theorem dX0_readOne_81 : decode cX0_readOne 81 = .ok (.invokevirtual 67, 3) := by decide +kernel
theorem dX0_readOne_84 : decode cX0_readOne 84 = .ok (.istore_n 3, 1) := by decide +kernel
theorem dX0_readOne_85 : decode cX0_readOne 85 = .ok (.aload_n 1, 1) := by decide +kernel
theorem dX0_readOne_86 : decode cX0_readOne 86 = .ok (.invokevirtual 71, 3) := by decide +kernel
theorem dX0_readOne_89 : decode cX0_readOne 89 = .ok (.iload_n 2, 1) := by decide +kernel
theorem dX0_readOne_90 : decode cX0_readOne 90 = .ok (.ifCond .eq 14, 3) := by decide +kernel
theorem dX0_readOne_93 : decode cX0_readOne 93 = .ok (.aload_n 0, 1) := by decide +kernel
theorem dX0_readOne_94 : decode cX0_readOne 94 = .ok (.aload_n 1, 1) := by decide +kernel
theorem dX0_readOne_95 : decode cX0_readOne 95 = .ok (.iload_n 3, 1) := by decide +kernel
theorem dX0_readOne_96 : decode cX0_readOne 96 = .ok (.invokevirtual 74, 3) := by decide +kernel
theorem dX0_readOne_99 : decode cX0_readOne 99 = .ok (.ifCond .ne 5, 3) := by decide +kernel
theorem dX0_readOne_102 : decode cX0_readOne 102 = .ok (.iconst 0, 1) := by decide +kernel
theorem dX0_readOne_103 : decode cX0_readOne 103 = .ok (.ireturn, 1) := by decide +kernel
theorem dX0_readOne_104 : decode cX0_readOne 104 = .ok (.aload_n 1, 1) := by decide +kernel
theorem dX0_readOne_105 : decode cX0_readOne 105 = .ok (.invokevirtual 78, 3) := by decide +kernel
theorem dX0_readOne_108 : decode cX0_readOne 108 = .ok (.ireturn, 1) := by decide +kernel
theorem dX0_add_0 : decode cX0_add 0 = .ok (.aload_n 0, 1) := by decide +kernel
theorem dX0_add_1 : decode cX0_add 1 = .ok (.getfield 25, 3) := by decide +kernel
theorem dX0_add_4 : decode cX0_add 4 = .ok (.istore_n 3, 1) := by decide +kernel
theorem dX0_add_5 : decode cX0_add 5 = .ok (.aload_n 0, 1) := by decide +kernel
theorem dX0_add_6 : decode cX0_add 6 = .ok (.getfield 9, 3) := by decide +kernel
theorem dX0_add_9 : decode cX0_add 9 = .ok (.iload_n 3, 1) := by decide +kernel
theorem dX0_add_10 : decode cX0_add 10 = .ok (.iload_n 2, 1) := by decide +kernel
theorem dX0_add_11 : decode cX0_add 11 = .ok (.iastore, 1) := by decide +kernel
theorem dX0_add_12 : decode cX0_add 12 = .ok (.aload_n 0, 1) := by decide +kernel
theorem dX0_add_13 : decode cX0_add 13 = .ok (.getfield 15, 3) := by decide +kernel
theorem dX0_add_16 : decode cX0_add 16 = .ok (.iload_n 3, 1) := by decide +kernel
theorem dX0_add_17 : decode cX0_add 17 = .ok (.iconst (-1), 1) := by decide +kernel
theorem dX0_add_18 : decode cX0_add 18 = .ok (.iastore, 1) := by decide +kernel
theorem dX0_add_19 : decode cX0_add 19 = .ok (.aload_n 0, 1) := by decide +kernel
theorem dX0_add_20 : decode cX0_add 20 = .ok (.getfield 18, 3) := by decide +kernel
theorem dX0_add_23 : decode cX0_add 23 = .ok (.iload_n 3, 1) := by decide +kernel
theorem dX0_add_24 : decode cX0_add 24 = .ok (.iconst 0, 1) := by decide +kernel
theorem dX0_add_25 : decode cX0_add 25 = .ok (.iastore, 1) := by decide +kernel
theorem dX0_add_26 : decode cX0_add 26 = .ok (.aload_n 0, 1) := by decide +kernel
theorem dX0_add_27 : decode cX0_add 27 = .ok (.getfield 21, 3) := by decide +kernel
theorem dX0_add_30 : decode cX0_add 30 = .ok (.iload_n 3, 1) := by decide +kernel
theorem dX0_add_31 : decode cX0_add 31 = .ok (.iload_n 1, 1) := by decide +kernel
theorem dX0_add_32 : decode cX0_add 32 = .ok (.bastore, 1) := by decide +kernel
theorem dX0_add_33 : decode cX0_add 33 = .ok (.aload_n 0, 1) := by decide +kernel
theorem dX0_add_34 : decode cX0_add 34 = .ok (.dup, 1) := by decide +kernel
theorem dX0_add_35 : decode cX0_add 35 = .ok (.getfield 29, 3) := by decide +kernel
theorem dX0_add_38 : decode cX0_add 38 = .ok (.iload_n 1, 1) := by decide +kernel
theorem dX0_add_39 : decode cX0_add 39 = .ok (.ifCond .eq 7, 3) := by decide +kernel
theorem dX0_add_42 : decode cX0_add 42 = .ok (.iconst 1, 1) := by decide +kernel
theorem dX0_add_43 : decode cX0_add 43 = .ok (.goto 4, 3) := by decide +kernel
theorem dX0_add_46 : decode cX0_add 46 = .ok (.iconst 0, 1) := by decide +kernel
theorem dX0_add_47 : decode cX0_add 47 = .ok (.iadd, 1) := by decide +kernel
theorem dX0_add_48 : decode cX0_add 48 = .ok (.putfield 29, 3) := by decide +kernel
theorem dX0_add_51 : decode cX0_add 51 = .ok (.aload_n 0, 1) := by decide +kernel
theorem dX0_add_52 : decode cX0_add 52 = .ok (.dup, 1) := by decide +kernel
theorem dX0_add_53 : decode cX0_add 53 = .ok (.getfield 32, 3) := by decide +kernel
theorem dX0_add_56 : decode cX0_add 56 = .ok (.iload_n 2, 1) := by decide +kernel
theorem dX0_add_57 : decode cX0_add 57 = .ok (.iadd, 1) := by decide +kernel
theorem dX0_add_58 : decode cX0_add 58 = .ok (.putfield 32, 3) := by decide +kernel
theorem dX0_add_61 : decode cX0_add 61 = .ok (.aload_n 0, 1) := by decide +kernel
theorem dX0_add_62 : decode cX0_add 62 = .ok (.dup, 1) := by decide +kernel
theorem dX0_add_63 : decode cX0_add 63 = .ok (.getfield 25, 3) := by decide +kernel
theorem dX0_add_66 : decode cX0_add 66 = .ok (.iconst 1, 1) := by decide +kernel
theorem dX0_add_67 : decode cX0_add 67 = .ok (.iadd, 1) := by decide +kernel
theorem dX0_add_68 : decode cX0_add 68 = .ok (.putfield 25, 3) := by decide +kernel
theorem dX0_add_71 : decode cX0_add 71 = .ok (.iload_n 3, 1) := by decide +kernel
theorem dX0_add_72 : decode cX0_add 72 = .ok (.ireturn, 1) := by decide +kernel
theorem dX0_readWishes_0 : decode cX0_readWishes 0 = .ok (.aload_n 1, 1) := by decide +kernel
theorem dX0_readWishes_1 : decode cX0_readWishes 1 = .ok (.ldc 82, 2) := by decide +kernel
theorem dX0_readWishes_3 : decode cX0_readWishes 3 = .ok (.invokevirtual 54, 3) := by decide +kernel
theorem dX0_readWishes_6 : decode cX0_readWishes 6 = .ok (.ifCond .eq 28, 3) := by decide +kernel
theorem dX0_readWishes_9 : decode cX0_readWishes 9 = .ok (.aload_n 1, 1) := by decide +kernel
theorem dX0_readWishes_10 : decode cX0_readWishes 10 = .ok (.iconst 0, 1) := by decide +kernel
theorem dX0_readWishes_11 : decode cX0_readWishes 11 = .ok (.iconst 3, 1) := by decide +kernel
theorem dX0_readWishes_12 : decode cX0_readWishes 12 = .ok (.invokevirtual 60, 3) := by decide +kernel
theorem dX0_readWishes_15 : decode cX0_readWishes 15 = .ok (.ifCond .ne 5, 3) := by decide +kernel
theorem dX0_readWishes_18 : decode cX0_readWishes 18 = .ok (.iconst 0, 1) := by decide +kernel
theorem dX0_readWishes_19 : decode cX0_readWishes 19 = .ok (.ireturn, 1) := by decide +kernel
theorem dX0_readWishes_20 : decode cX0_readWishes 20 = .ok (.aload_n 0, 1) := by decide +kernel
theorem dX0_readWishes_21 : decode cX0_readWishes 21 = .ok (.getfield 15, 3) := by decide +kernel
theorem dX0_readWishes_24 : decode cX0_readWishes 24 = .ok (.iload_n 2, 1) := by decide +kernel
theorem dX0_readWishes_25 : decode cX0_readWishes 25 = .ok (.aload_n 1, 1) := by decide +kernel
theorem dX0_readWishes_26 : decode cX0_readWishes 26 = .ok (.getfield 64, 3) := by decide +kernel
theorem dX0_readWishes_29 : decode cX0_readWishes 29 = .ok (.iastore, 1) := by decide +kernel
theorem dX0_readWishes_30 : decode cX0_readWishes 30 = .ok (.aload_n 1, 1) := by decide +kernel
theorem dX0_readWishes_31 : decode cX0_readWishes 31 = .ok (.invokevirtual 71, 3) := by decide +kernel
theorem dX0_readWishes_34 : decode cX0_readWishes 34 = .ok (.aload_n 1, 1) := by decide +kernel
theorem dX0_readWishes_35 : decode cX0_readWishes 35 = .ok (.ldc 83, 2) := by decide +kernel
theorem dX0_readWishes_37 : decode cX0_readWishes 37 = .ok (.invokevirtual 54, 3) := by decide +kernel
theorem dX0_readWishes_40 : decode cX0_readWishes 40 = .ok (.ifCond .eq 28, 3) := by decide +kernel
theorem dX0_readWishes_43 : decode cX0_readWishes 43 = .ok (.aload_n 1, 1) := by decide +kernel
theorem dX0_readWishes_44 : decode cX0_readWishes 44 = .ok (.iconst 0, 1) := by decide +kernel
theorem dX0_readWishes_45 : decode cX0_readWishes 45 = .ok (.iconst 4, 1) := by decide +kernel
theorem dX0_readWishes_46 : decode cX0_readWishes 46 = .ok (.invokevirtual 60, 3) := by decide +kernel
theorem dX0_readWishes_49 : decode cX0_readWishes 49 = .ok (.ifCond .ne 5, 3) := by decide +kernel
theorem dX0_readWishes_52 : decode cX0_readWishes 52 = .ok (.iconst 0, 1) := by decide +kernel
theorem dX0_readWishes_53 : decode cX0_readWishes 53 = .ok (.ireturn, 1) := by decide +kernel
theorem dX0_readWishes_54 : decode cX0_readWishes 54 = .ok (.aload_n 0, 1) := by decide +kernel
theorem dX0_readWishes_55 : decode cX0_readWishes 55 = .ok (.getfield 18, 3) := by decide +kernel
theorem dX0_readWishes_58 : decode cX0_readWishes 58 = .ok (.iload_n 2, 1) := by decide +kernel
theorem dX0_readWishes_59 : decode cX0_readWishes 59 = .ok (.aload_n 1, 1) := by decide +kernel
theorem dX0_readWishes_60 : decode cX0_readWishes 60 = .ok (.getfield 64, 3) := by decide +kernel
theorem dX0_readWishes_63 : decode cX0_readWishes 63 = .ok (.iastore, 1) := by decide +kernel
theorem dX0_readWishes_64 : decode cX0_readWishes 64 = .ok (.aload_n 1, 1) := by decide +kernel
theorem dX0_readWishes_65 : decode cX0_readWishes 65 = .ok (.invokevirtual 71, 3) := by decide +kernel
theorem dX0_readWishes_68 : decode cX0_readWishes 68 = .ok (.iconst 1, 1) := by decide +kernel
theorem dX0_readWishes_69 : decode cX0_readWishes 69 = .ok (.ireturn, 1) := by decide +kernel
theorem dX1_init_0 : decode cX1_init 0 = .ok (.aload_n 0, 1) := by decide +kernel
theorem dX1_init_1 : decode cX1_init 1 = .ok (.invokespecial 3, 3) := by decide +kernel
theorem dX1_init_4 : decode cX1_init 4 = .ok (.aload_n 0, 1) := by decide +kernel
theorem dX1_init_5 : decode cX1_init 5 = .ok (.sipush 168, 3) := by decide +kernel
theorem dX1_init_8 : decode cX1_init 8 = .ok (.newarray .int, 2) := by decide +kernel
theorem dX1_init_10 : decode cX1_init 10 = .ok (.putfield 9, 3) := by decide +kernel
theorem dX1_init_13 : decode cX1_init 13 = .ok (.aload_n 0, 1) := by decide +kernel
theorem dX1_init_14 : decode cX1_init 14 = .ok (.sipush 1344, 3) := by decide +kernel
theorem dX1_init_17 : decode cX1_init 17 = .ok (.newarray .int, 2) := by decide +kernel
theorem dX1_init_19 : decode cX1_init 19 = .ok (.putfield 15, 3) := by decide +kernel
theorem dX1_init_22 : decode cX1_init 22 = .ok (.aload_n 0, 1) := by decide +kernel
theorem dX1_init_23 : decode cX1_init 23 = .ok (.sipush 300, 3) := by decide +kernel
theorem dX1_init_26 : decode cX1_init 26 = .ok (.newarray .int, 2) := by decide +kernel
theorem dX1_init_28 : decode cX1_init 28 = .ok (.putfield 18, 3) := by decide +kernel
theorem dX1_init_31 : decode cX1_init 31 = .ok (.aload_n 0, 1) := by decide +kernel
theorem dX1_init_32 : decode cX1_init 32 = .ok (.sipush 300, 3) := by decide +kernel
theorem dX1_init_35 : decode cX1_init 35 = .ok (.newarray .int, 2) := by decide +kernel
theorem dX1_init_37 : decode cX1_init 37 = .ok (.putfield 21, 3) := by decide +kernel
theorem dX1_init_40 : decode cX1_init 40 = .ok (.aload_n 0, 1) := by decide +kernel
theorem dX1_init_41 : decode cX1_init 41 = .ok (.sipush 300, 3) := by decide +kernel
theorem dX1_init_44 : decode cX1_init 44 = .ok (.newarray .int, 2) := by decide +kernel
theorem dX1_init_46 : decode cX1_init 46 = .ok (.putfield 24, 3) := by decide +kernel
theorem dX1_init_49 : decode cX1_init 49 = .ok (.aload_n 0, 1) := by decide +kernel
theorem dX1_init_50 : decode cX1_init 50 = .ok (.sipush 300, 3) := by decide +kernel
theorem dX1_init_53 : decode cX1_init 53 = .ok (.newarray .int, 2) := by decide +kernel
theorem dX1_init_55 : decode cX1_init 55 = .ok (.putfield 27, 3) := by decide +kernel
theorem dX1_init_58 : decode cX1_init 58 = .ok (.return_, 1) := by decide +kernel
theorem dX1_hasRoomFor_0 : decode cX1_hasRoomFor 0 = .ok (.aload_n 0, 1) := by decide +kernel
theorem dX1_hasRoomFor_1 : decode cX1_hasRoomFor 1 = .ok (.getfield 30, 3) := by decide +kernel
theorem dX1_hasRoomFor_4 : decode cX1_hasRoomFor 4 = .ok (.sipush 168, 3) := by decide +kernel
theorem dX1_hasRoomFor_7 : decode cX1_hasRoomFor 7 = .ok (.if_icmp .ge 21, 3) := by decide +kernel
theorem dX1_hasRoomFor_10 : decode cX1_hasRoomFor 10 = .ok (.aload_n 0, 1) := by decide +kernel
theorem dX1_hasRoomFor_11 : decode cX1_hasRoomFor 11 = .ok (.getfield 34, 3) := by decide +kernel
theorem dX1_hasRoomFor_14 : decode cX1_hasRoomFor 14 = .ok (.iconst 4, 1) := by decide +kernel
theorem dX1_hasRoomFor_15 : decode cX1_hasRoomFor 15 = .ok (.iload_n 1, 1) := by decide +kernel
theorem dX1_hasRoomFor_16 : decode cX1_hasRoomFor 16 = .ok (.imul, 1) := by decide +kernel
theorem dX1_hasRoomFor_17 : decode cX1_hasRoomFor 17 = .ok (.iadd, 1) := by decide +kernel
theorem dX1_hasRoomFor_18 : decode cX1_hasRoomFor 18 = .ok (.sipush 300, 3) := by decide +kernel
theorem dX1_hasRoomFor_21 : decode cX1_hasRoomFor 21 = .ok (.if_icmp .gt 7, 3) := by decide +kernel
theorem dX1_hasRoomFor_24 : decode cX1_hasRoomFor 24 = .ok (.iconst 1, 1) := by decide +kernel
theorem dX1_hasRoomFor_25 : decode cX1_hasRoomFor 25 = .ok (.goto 4, 3) := by decide +kernel
theorem dX1_hasRoomFor_28 : decode cX1_hasRoomFor 28 = .ok (.iconst 0, 1) := by decide +kernel
theorem dX1_hasRoomFor_29 : decode cX1_hasRoomFor 29 = .ok (.ireturn, 1) := by decide +kernel
theorem dX1_addPlay_0 : decode cX1_addPlay 0 = .ok (.aload_n 0, 1) := by decide +kernel
theorem dX1_addPlay_1 : decode cX1_addPlay 1 = .ok (.getfield 18, 3) := by decide +kernel
theorem dX1_addPlay_4 : decode cX1_addPlay 4 = .ok (.aload_n 0, 1) := by decide +kernel
theorem dX1_addPlay_5 : decode cX1_addPlay 5 = .ok (.getfield 34, 3) := by decide +kernel
theorem dX1_addPlay_8 : decode cX1_addPlay 8 = .ok (.iload_n 1, 1) := by decide +kernel
theorem dX1_addPlay_9 : decode cX1_addPlay 9 = .ok (.iastore, 1) := by decide +kernel
theorem dX1_addPlay_10 : decode cX1_addPlay 10 = .ok (.aload_n 0, 1) := by decide +kernel
theorem dX1_addPlay_11 : decode cX1_addPlay 11 = .ok (.getfield 21, 3) := by decide +kernel
theorem dX1_addPlay_14 : decode cX1_addPlay 14 = .ok (.aload_n 0, 1) := by decide +kernel
theorem dX1_addPlay_15 : decode cX1_addPlay 15 = .ok (.getfield 34, 3) := by decide +kernel
theorem dX1_addPlay_18 : decode cX1_addPlay 18 = .ok (.iload_n 2, 1) := by decide +kernel
theorem dX1_addPlay_19 : decode cX1_addPlay 19 = .ok (.iastore, 1) := by decide +kernel
theorem dX1_addPlay_20 : decode cX1_addPlay 20 = .ok (.aload_n 0, 1) := by decide +kernel
theorem dX1_addPlay_21 : decode cX1_addPlay 21 = .ok (.getfield 24, 3) := by decide +kernel
theorem dX1_addPlay_24 : decode cX1_addPlay 24 = .ok (.aload_n 0, 1) := by decide +kernel
theorem dX1_addPlay_25 : decode cX1_addPlay 25 = .ok (.getfield 34, 3) := by decide +kernel
theorem dX1_addPlay_28 : decode cX1_addPlay 28 = .ok (.aload_n 0, 1) := by decide +kernel
theorem dX1_addPlay_29 : decode cX1_addPlay 29 = .ok (.getfield 30, 3) := by decide +kernel
theorem dX1_addPlay_32 : decode cX1_addPlay 32 = .ok (.iastore, 1) := by decide +kernel
theorem dX1_addPlay_33 : decode cX1_addPlay 33 = .ok (.aload_n 0, 1) := by decide +kernel
theorem dX1_addPlay_34 : decode cX1_addPlay 34 = .ok (.getfield 27, 3) := by decide +kernel
theorem dX1_addPlay_37 : decode cX1_addPlay 37 = .ok (.aload_n 0, 1) := by decide +kernel
theorem dX1_addPlay_38 : decode cX1_addPlay 38 = .ok (.getfield 34, 3) := by decide +kernel
theorem dX1_addPlay_41 : decode cX1_addPlay 41 = .ok (.iload_n 3, 1) := by decide +kernel
theorem dX1_addPlay_42 : decode cX1_addPlay 42 = .ok (.iastore, 1) := by decide +kernel
theorem dX1_addPlay_43 : decode cX1_addPlay 43 = .ok (.aload_n 0, 1) := by decide +kernel
theorem dX1_addPlay_44 : decode cX1_addPlay 44 = .ok (.dup, 1) := by decide +kernel
theorem dX1_addPlay_45 : decode cX1_addPlay 45 = .ok (.getfield 34, 3) := by decide +kernel
theorem dX1_addPlay_48 : decode cX1_addPlay 48 = .ok (.iconst 1, 1) := by decide +kernel
theorem dX1_addPlay_49 : decode cX1_addPlay 49 = .ok (.iadd, 1) := by decide +kernel
theorem dX1_addPlay_50 : decode cX1_addPlay 50 = .ok (.putfield 34, 3) := by decide +kernel
theorem dX1_addPlay_53 : decode cX1_addPlay 53 = .ok (.return_, 1) := by decide +kernel
theorem dX1_noteStretch_0 : decode cX1_noteStretch 0 = .ok (.aload_n 0, 1) := by decide +kernel
theorem dX1_noteStretch_1 : decode cX1_noteStretch 1 = .ok (.getfield 15, 3) := by decide +kernel
theorem dX1_noteStretch_4 : decode cX1_noteStretch 4 = .ok (.aload_n 0, 1) := by decide +kernel
theorem dX1_noteStretch_5 : decode cX1_noteStretch 5 = .ok (.getfield 30, 3) := by decide +kernel
theorem dX1_noteStretch_8 : decode cX1_noteStretch 8 = .ok (.bipush 8, 2) := by decide +kernel
theorem dX1_noteStretch_10 : decode cX1_noteStretch 10 = .ok (.imul, 1) := by decide +kernel
theorem dX1_noteStretch_11 : decode cX1_noteStretch 11 = .ok (.iload_n 1, 1) := by decide +kernel
theorem dX1_noteStretch_12 : decode cX1_noteStretch 12 = .ok (.iadd, 1) := by decide +kernel
theorem dX1_noteStretch_13 : decode cX1_noteStretch 13 = .ok (.iload_n 2, 1) := by decide +kernel
theorem dX1_noteStretch_14 : decode cX1_noteStretch 14 = .ok (.iastore, 1) := by decide +kernel
theorem dX1_noteStretch_15 : decode cX1_noteStretch 15 = .ok (.aload_n 0, 1) := by decide +kernel
theorem dX1_noteStretch_16 : decode cX1_noteStretch 16 = .ok (.dup, 1) := by decide +kernel
theorem dX1_noteStretch_17 : decode cX1_noteStretch 17 = .ok (.getfield 37, 3) := by decide +kernel
theorem dX1_noteStretch_20 : decode cX1_noteStretch 20 = .ok (.iload_n 2, 1) := by decide +kernel
theorem dX1_noteStretch_21 : decode cX1_noteStretch 21 = .ok (.iadd, 1) := by decide +kernel
theorem dX1_noteStretch_22 : decode cX1_noteStretch 22 = .ok (.putfield 37, 3) := by decide +kernel
theorem dX1_noteStretch_25 : decode cX1_noteStretch 25 = .ok (.aload_n 0, 1) := by decide +kernel
theorem dX1_noteStretch_26 : decode cX1_noteStretch 26 = .ok (.dup, 1) := by decide +kernel
theorem dX1_noteStretch_27 : decode cX1_noteStretch 27 = .ok (.getfield 40, 3) := by decide +kernel
theorem dX1_noteStretch_30 : decode cX1_noteStretch 30 = .ok (.iload_n 3, 1) := by decide +kernel
theorem dX1_noteStretch_31 : decode cX1_noteStretch 31 = .ok (.ifCond .eq 7, 3) := by decide +kernel
theorem dX1_noteStretch_34 : decode cX1_noteStretch 34 = .ok (.iconst 1, 1) := by decide +kernel
theorem dX1_noteStretch_35 : decode cX1_noteStretch 35 = .ok (.goto 4, 3) := by decide +kernel
theorem dX1_noteStretch_38 : decode cX1_noteStretch 38 = .ok (.iconst 0, 1) := by decide +kernel
theorem dX1_noteStretch_39 : decode cX1_noteStretch 39 = .ok (.iadd, 1) := by decide +kernel
theorem dX1_noteStretch_40 : decode cX1_noteStretch 40 = .ok (.putfield 40, 3) := by decide +kernel
theorem dX1_noteStretch_43 : decode cX1_noteStretch 43 = .ok (.return_, 1) := by decide +kernel
theorem dX1_closeHour_0 : decode cX1_closeHour 0 = .ok (.aload_n 0, 1) := by decide +kernel
theorem dX1_closeHour_1 : decode cX1_closeHour 1 = .ok (.getfield 9, 3) := by decide +kernel
theorem dX1_closeHour_4 : decode cX1_closeHour 4 = .ok (.aload_n 0, 1) := by decide +kernel
theorem dX1_closeHour_5 : decode cX1_closeHour 5 = .ok (.getfield 30, 3) := by decide +kernel
theorem dX1_closeHour_8 : decode cX1_closeHour 8 = .ok (.iload_n 1, 1) := by decide +kernel
theorem dX1_closeHour_9 : decode cX1_closeHour 9 = .ok (.iastore, 1) := by decide +kernel
theorem dX1_closeHour_10 : decode cX1_closeHour 10 = .ok (.aload_n 0, 1) := by decide +kernel
theorem dX1_closeHour_11 : decode cX1_closeHour 11 = .ok (.dup, 1) := by decide +kernel
theorem dX1_closeHour_12 : decode cX1_closeHour 12 = .ok (.getfield 30, 3) := by decide +kernel
theorem dX1_closeHour_15 : decode cX1_closeHour 15 = .ok (.iconst 1, 1) := by decide +kernel
theorem dX1_closeHour_16 : decode cX1_closeHour 16 = .ok (.iadd, 1) := by decide +kernel
theorem dX1_closeHour_17 : decode cX1_closeHour 17 = .ok (.putfield 30, 3) := by decide +kernel
theorem dX1_closeHour_20 : decode cX1_closeHour 20 = .ok (.return_, 1) := by decide +kernel
theorem dX2_init_0 : decode cX2_init 0 = .ok (.aload_n 0, 1) := by decide +kernel
theorem dX2_init_1 : decode cX2_init 1 = .ok (.invokespecial 3, 3) := by decide +kernel
theorem dX2_init_4 : decode cX2_init 4 = .ok (.aload_n 0, 1) := by decide +kernel
theorem dX2_init_5 : decode cX2_init 5 = .ok (.iconst 4, 1) := by decide +kernel
theorem dX2_init_6 : decode cX2_init 6 = .ok (.newarray .int, 2) := by decide +kernel
theorem dX2_init_8 : decode cX2_init 8 = .ok (.putfield 9, 3) := by decide +kernel
theorem dX2_init_11 : decode cX2_init 11 = .ok (.aload_n 0, 1) := by decide +kernel
theorem dX2_init_12 : decode cX2_init 12 = .ok (.iconst 4, 1) := by decide +kernel
theorem dX2_init_13 : decode cX2_init 13 = .ok (.newarray .int, 2) := by decide +kernel
theorem dX2_init_15 : decode cX2_init 15 = .ok (.putfield 15, 3) := by decide +kernel
theorem dX2_init_18 : decode cX2_init 18 = .ok (.aload_n 0, 1) := by decide +kernel
theorem dX2_init_19 : decode cX2_init 19 = .ok (.bipush 24, 2) := by decide +kernel
theorem dX2_init_21 : decode cX2_init 21 = .ok (.newarray .int, 2) := by decide +kernel
theorem dX2_init_23 : decode cX2_init 23 = .ok (.putfield 18, 3) := by decide +kernel
theorem dX2_init_26 : decode cX2_init 26 = .ok (.aload_n 0, 1) := by decide +kernel
theorem dX2_init_27 : decode cX2_init 27 = .ok (.bipush 24, 2) := by decide +kernel
theorem dX2_init_29 : decode cX2_init 29 = .ok (.newarray .int, 2) := by decide +kernel
theorem dX2_init_31 : decode cX2_init 31 = .ok (.putfield 21, 3) := by decide +kernel
theorem dX2_init_34 : decode cX2_init 34 = .ok (.aload_n 0, 1) := by decide +kernel
theorem dX2_init_35 : decode cX2_init 35 = .ok (.bipush 12, 2) := by decide +kernel
theorem dX2_init_37 : decode cX2_init 37 = .ok (.newarray .int, 2) := by decide +kernel
theorem dX2_init_39 : decode cX2_init 39 = .ok (.putfield 24, 3) := by decide +kernel
theorem dX2_init_42 : decode cX2_init 42 = .ok (.aload_n 0, 1) := by decide +kernel
theorem dX2_init_43 : decode cX2_init 43 = .ok (.bipush 24, 2) := by decide +kernel
theorem dX2_init_45 : decode cX2_init 45 = .ok (.newarray .int, 2) := by decide +kernel
theorem dX2_init_47 : decode cX2_init 47 = .ok (.putfield 27, 3) := by decide +kernel
theorem dX2_init_50 : decode cX2_init 50 = .ok (.aload_n 0, 1) := by decide +kernel
theorem dX2_init_51 : decode cX2_init 51 = .ok (.bipush 24, 2) := by decide +kernel
theorem dX2_init_53 : decode cX2_init 53 = .ok (.newarray .int, 2) := by decide +kernel
theorem dX2_init_55 : decode cX2_init 55 = .ok (.putfield 30, 3) := by decide +kernel
theorem dX2_init_58 : decode cX2_init 58 = .ok (.return_, 1) := by decide +kernel
theorem dX2_prepare_0 : decode cX2_prepare 0 = .ok (.aload_n 0, 1) := by decide +kernel
theorem dX2_prepare_1 : decode cX2_prepare 1 = .ok (.aload_n 2, 1) := by decide +kernel
theorem dX2_prepare_2 : decode cX2_prepare 2 = .ok (.getfield 33, 3) := by decide +kernel
theorem dX2_prepare_5 : decode cX2_prepare 5 = .ok (.iconst 0, 1) := by decide +kernel
theorem dX2_prepare_6 : decode cX2_prepare 6 = .ok (.iaload, 1) := by decide +kernel
theorem dX2_prepare_7 : decode cX2_prepare 7 = .ok (.bipush 60, 2) := by decide +kernel
theorem dX2_prepare_9 : decode cX2_prepare 9 = .ok (.imul, 1) := by decide +kernel
theorem dX2_prepare_10 : decode cX2_prepare 10 = .ok (.putfield 38, 3) := by decide +kernel
theorem dX2_prepare_13 : decode cX2_prepare 13 = .ok (.aload_n 0, 1) := by decide +kernel
theorem dX2_prepare_14 : decode cX2_prepare 14 = .ok (.aload_n 2, 1) := by decide +kernel
theorem dX2_prepare_15 : decode cX2_prepare 15 = .ok (.getfield 33, 3) := by decide +kernel
theorem dX2_prepare_18 : decode cX2_prepare 18 = .ok (.iconst 1, 1) := by decide +kernel
theorem dX2_prepare_19 : decode cX2_prepare 19 = .ok (.iaload, 1) := by decide +kernel
theorem dX2_prepare_20 : decode cX2_prepare 20 = .ok (.bipush 60, 2) := by decide +kernel
theorem dX2_prepare_22 : decode cX2_prepare 22 = .ok (.imul, 1) := by decide +kernel
theorem dX2_prepare_23 : decode cX2_prepare 23 = .ok (.putfield 42, 3) := by decide +kernel
theorem dX2_prepare_26 : decode cX2_prepare 26 = .ok (.aload_n 0, 1) := by decide +kernel
theorem dX2_prepare_27 : decode cX2_prepare 27 = .ok (.aload_n 2, 1) := by decide +kernel
theorem dX2_prepare_28 : decode cX2_prepare 28 = .ok (.getfield 33, 3) := by decide +kernel
theorem dX2_prepare_31 : decode cX2_prepare 31 = .ok (.iconst 2, 1) := by decide +kernel
theorem dX2_prepare_32 : decode cX2_prepare 32 = .ok (.iaload, 1) := by decide +kernel
theorem dX2_prepare_33 : decode cX2_prepare 33 = .ok (.putfield 45, 3) := by decide +kernel
theorem dX2_prepare_36 : decode cX2_prepare 36 = .ok (.aload_n 0, 1) := by decide +kernel
theorem dX2_prepare_37 : decode cX2_prepare 37 = .ok (.aload_n 2, 1) := by decide +kernel
theorem dX2_prepare_38 : decode cX2_prepare 38 = .ok (.getfield 33, 3) := by decide +kernel
theorem dX2_prepare_41 : decode cX2_prepare 41 = .ok (.iconst 3, 1) := by decide +kernel
theorem dX2_prepare_42 : decode cX2_prepare 42 = .ok (.iaload, 1) := by decide +kernel
theorem dX2_prepare_43 : decode cX2_prepare 43 = .ok (.putfield 48, 3) := by decide +kernel
theorem dX2_prepare_46 : decode cX2_prepare 46 = .ok (.aload_n 0, 1) := by decide +kernel
theorem dX2_prepare_47 : decode cX2_prepare 47 = .ok (.aload_n 2, 1) := by decide +kernel
theorem dX2_prepare_48 : decode cX2_prepare 48 = .ok (.getfield 33, 3) := by decide +kernel
theorem dX2_prepare_51 : decode cX2_prepare 51 = .ok (.iconst 4, 1) := by decide +kernel
theorem dX2_prepare_52 : decode cX2_prepare 52 = .ok (.iaload, 1) := by decide +kernel
theorem dX2_prepare_53 : decode cX2_prepare 53 = .ok (.iconst 4, 1) := by decide +kernel
theorem dX2_prepare_54 : decode cX2_prepare 54 = .ok (.invokestatic 51, 3) := by decide +kernel
theorem dX2_prepare_57 : decode cX2_prepare 57 = .ok (.putfield 57, 3) := by decide +kernel
theorem dX2_prepare_60 : decode cX2_prepare 60 = .ok (.iconst 0, 1) := by decide +kernel
theorem dX2_prepare_61 : decode cX2_prepare 61 = .ok (.istore_n 3, 1) := by decide +kernel
theorem dX2_prepare_62 : decode cX2_prepare 62 = .ok (.iload_n 3, 1) := by decide +kernel
theorem dX2_prepare_63 : decode cX2_prepare 63 = .ok (.aload_n 1, 1) := by decide +kernel
theorem dX2_prepare_64 : decode cX2_prepare 64 = .ok (.getfield 60, 3) := by decide +kernel
theorem dX2_prepare_67 : decode cX2_prepare 67 = .ok (.if_icmp .ge 20, 3) := by decide +kernel
theorem dX2_prepare_70 : decode cX2_prepare 70 = .ok (.aload_n 0, 1) := by decide +kernel
theorem dX2_prepare_71 : decode cX2_prepare 71 = .ok (.getfield 18, 3) := by decide +kernel
theorem dX2_prepare_74 : decode cX2_prepare 74 = .ok (.iload_n 3, 1) := by decide +kernel
theorem dX2_prepare_75 : decode cX2_prepare 75 = .ok (.aload_n 1, 1) := by decide +kernel
theorem dX2_prepare_76 : decode cX2_prepare 76 = .ok (.iload_n 3, 1) := by decide +kernel
theorem dX2_prepare_77 : decode cX2_prepare 77 = .ok (.invokevirtual 65, 3) := by decide +kernel
theorem dX2_prepare_80 : decode cX2_prepare 80 = .ok (.iastore, 1) := by decide +kernel
theorem dX2_prepare_81 : decode cX2_prepare 81 = .ok (.iinc 3 1, 3) := by decide +kernel
theorem dX2_prepare_84 : decode cX2_prepare 84 = .ok (.goto (-22), 3) := by decide +kernel
theorem dX2_prepare_87 : decode cX2_prepare 87 = .ok (.return_, 1) := by decide +kernel
theorem dX2_aim_0 : decode cX2_aim 0 = .ok (.aload_n 0, 1) := by decide +kernel
theorem dX2_aim_1 : decode cX2_aim 1 = .ok (.iload_n 2, 1) := by decide +kernel
theorem dX2_aim_2 : decode cX2_aim 2 = .ok (.iload_n 3, 1) := by decide +kernel
theorem dX2_aim_3 : decode cX2_aim 3 = .ok (.iadd, 1) := by decide +kernel
theorem dX2_aim_4 : decode cX2_aim 4 = .ok (.putfield 68, 3) := by decide +kernel
theorem dX2_aim_7 : decode cX2_aim 7 = .ok (.aload_n 0, 1) := by decide +kernel
theorem dX2_aim_8 : decode cX2_aim 8 = .ok (.iload 5, 2) := by decide +kernel
theorem dX2_aim_10 : decode cX2_aim 10 = .ok (.putfield 71, 3) := by decide +kernel
theorem dX2_aim_13 : decode cX2_aim 13 = .ok (.aload_n 0, 1) := by decide +kernel
theorem dX2_aim_14 : decode cX2_aim 14 = .ok (.iconst 0, 1) := by decide +kernel
theorem dX2_aim_15 : decode cX2_aim 15 = .ok (.putfield 74, 3) := by decide +kernel
theorem dX2_aim_18 : decode cX2_aim 18 = .ok (.aload_n 0, 1) := by decide +kernel
theorem dX2_aim_19 : decode cX2_aim 19 = .ok (.aload_n 0, 1) := by decide +kernel
theorem dX2_aim_20 : decode cX2_aim 20 = .ok (.getfield 48, 3) := by decide +kernel
theorem dX2_aim_23 : decode cX2_aim 23 = .ok (.putfield 77, 3) := by decide +kernel
theorem dX2_aim_26 : decode cX2_aim 26 = .ok (.aload_n 0, 1) := by decide +kernel
theorem dX2_aim_27 : decode cX2_aim 27 = .ok (.iconst (-1), 1) := by decide +kernel
theorem dX2_aim_28 : decode cX2_aim 28 = .ok (.putfield 80, 3) := by decide +kernel
theorem dX2_aim_31 : decode cX2_aim 31 = .ok (.iconst 0, 1) := by decide +kernel
theorem dX2_aim_32 : decode cX2_aim 32 = .ok (.istore 6, 2) := by decide +kernel
theorem dX2_aim_34 : decode cX2_aim 34 = .ok (.iload 6, 2) := by decide +kernel
theorem dX2_aim_36 : decode cX2_aim 36 = .ok (.aload_n 1, 1) := by decide +kernel
theorem dX2_aim_37 : decode cX2_aim 37 = .ok (.getfield 60, 3) := by decide +kernel
theorem dX2_aim_40 : decode cX2_aim 40 = .ok (.if_icmp .ge 43, 3) := by decide +kernel
theorem dX2_aim_43 : decode cX2_aim 43 = .ok (.aload_n 0, 1) := by decide +kernel
theorem dX2_aim_44 : decode cX2_aim 44 = .ok (.getfield 21, 3) := by decide +kernel
theorem dX2_aim_47 : decode cX2_aim 47 = .ok (.iload 6, 2) := by decide +kernel
theorem dX2_aim_49 : decode cX2_aim 49 = .ok (.aload_n 1, 1) := by decide +kernel
theorem dX2_aim_50 : decode cX2_aim 50 = .ok (.getfield 83, 3) := by decide +kernel
theorem dX2_aim_53 : decode cX2_aim 53 = .ok (.iload 6, 2) := by decide +kernel
theorem dX2_aim_55 : decode cX2_aim 55 = .ok (.iaload, 1) := by decide +kernel
theorem dX2_aim_56 : decode cX2_aim 56 = .ok (.iconst (-1), 1) := by decide +kernel
theorem dX2_aim_57 : decode cX2_aim 57 = .ok (.if_icmp .ne 7, 3) := by decide +kernel
theorem dX2_aim_60 : decode cX2_aim 60 = .ok (.iconst 0, 1) := by decide +kernel
theorem dX2_aim_61 : decode cX2_aim 61 = .ok (.goto 15, 3) := by decide +kernel
theorem dX2_aim_64 : decode cX2_aim 64 = .ok (.aload_n 1, 1) := by decide +kernel
theorem dX2_aim_65 : decode cX2_aim 65 = .ok (.getfield 83, 3) := by decide +kernel
theorem dX2_aim_68 : decode cX2_aim 68 = .ok (.iload 6, 2) := by decide +kernel
theorem dX2_aim_70 : decode cX2_aim 70 = .ok (.iaload, 1) := by decide +kernel
theorem dX2_aim_71 : decode cX2_aim 71 = .ok (.aload_n 0, 1) := by decide +kernel
theorem dX2_aim_72 : decode cX2_aim 72 = .ok (.getfield 38, 3) := by decide +kernel
theorem dX2_aim_75 : decode cX2_aim 75 = .ok (.iadd, 1) := by decide +kernel
theorem dX2_aim_76 : decode cX2_aim 76 = .ok (.iastore, 1) := by decide +kernel
theorem dX2_aim_77 : decode cX2_aim 77 = .ok (.iinc 6 1, 3) := by decide +kernel
theorem dX2_aim_80 : decode cX2_aim 80 = .ok (.goto (-46), 3) := by decide +kernel
theorem dX2_aim_83 : decode cX2_aim 83 = .ok (.iconst 0, 1) := by decide +kernel
theorem dX2_aim_84 : decode cX2_aim 84 = .ok (.istore 6, 2) := by decide +kernel
theorem dX2_aim_86 : decode cX2_aim 86 = .ok (.iload 6, 2) := by decide +kernel
theorem dX2_aim_88 : decode cX2_aim 88 = .ok (.bipush 12, 2) := by decide +kernel
theorem dX2_aim_90 : decode cX2_aim 90 = .ok (.if_icmp .ge 43, 3) := by decide +kernel
theorem dX2_aim_93 : decode cX2_aim 93 = .ok (.aload_n 0, 1) := by decide +kernel
theorem dX2_aim_94 : decode cX2_aim 94 = .ok (.getfield 24, 3) := by decide +kernel
theorem dX2_aim_97 : decode cX2_aim 97 = .ok (.iload 6, 2) := by decide +kernel
theorem dX2_aim_99 : decode cX2_aim 99 = .ok (.aload_n 1, 1) := by decide +kernel
theorem dX2_aim_100 : decode cX2_aim 100 = .ok (.getfield 86, 3) := by decide +kernel
theorem dX2_aim_103 : decode cX2_aim 103 = .ok (.iload 6, 2) := by decide +kernel
theorem dX2_aim_105 : decode cX2_aim 105 = .ok (.iaload, 1) := by decide +kernel
theorem dX2_aim_106 : decode cX2_aim 106 = .ok (.iconst (-1), 1) := by decide +kernel
theorem dX2_aim_107 : decode cX2_aim 107 = .ok (.if_icmp .ne 7, 3) := by decide +kernel
theorem dX2_aim_110 : decode cX2_aim 110 = .ok (.iconst 0, 1) := by decide +kernel
theorem dX2_aim_111 : decode cX2_aim 111 = .ok (.goto 15, 3) := by decide +kernel
theorem dX2_aim_114 : decode cX2_aim 114 = .ok (.aload_n 1, 1) := by decide +kernel
theorem dX2_aim_115 : decode cX2_aim 115 = .ok (.getfield 86, 3) := by decide +kernel
theorem dX2_aim_118 : decode cX2_aim 118 = .ok (.iload 6, 2) := by decide +kernel
theorem dX2_aim_120 : decode cX2_aim 120 = .ok (.iaload, 1) := by decide +kernel
theorem dX2_aim_121 : decode cX2_aim 121 = .ok (.aload_n 0, 1) := by decide +kernel
theorem dX2_aim_122 : decode cX2_aim 122 = .ok (.getfield 42, 3) := by decide +kernel
theorem dX2_aim_125 : decode cX2_aim 125 = .ok (.iadd, 1) := by decide +kernel
theorem dX2_aim_126 : decode cX2_aim 126 = .ok (.iastore, 1) := by decide +kernel
theorem dX2_aim_127 : decode cX2_aim 127 = .ok (.iinc 6 1, 3) := by decide +kernel
theorem dX2_aim_130 : decode cX2_aim 130 = .ok (.goto (-44), 3) := by decide +kernel
theorem dX2_aim_133 : decode cX2_aim 133 = .ok (.aload_n 0, 1) := by decide +kernel
theorem dX2_aim_134 : decode cX2_aim 134 = .ok (.aload_n 1, 1) := by decide +kernel
theorem dX2_aim_135 : decode cX2_aim 135 = .ok (.iload 4, 2) := by decide +kernel
theorem dX2_aim_137 : decode cX2_aim 137 = .ok (.invokevirtual 89, 3) := by decide +kernel
theorem dX2_aim_140 : decode cX2_aim 140 = .ok (.return_, 1) := by decide +kernel
theorem dX2_run_0 : decode cX2_run 0 = .ok (.aload_n 0, 1) := by decide +kernel
theorem dX2_run_1 : decode cX2_run 1 = .ok (.aload_n 1, 1) := by decide +kernel
theorem dX2_run_2 : decode cX2_run 2 = .ok (.iconst 0, 1) := by decide +kernel
theorem dX2_run_3 : decode cX2_run 3 = .ok (.iload_n 2, 1) := by decide +kernel
theorem dX2_run_4 : decode cX2_run 4 = .ok (.iload_n 3, 1) := by decide +kernel
theorem dX2_run_5 : decode cX2_run 5 = .ok (.iconst 0, 1) := by decide +kernel
theorem dX2_run_6 : decode cX2_run 6 = .ok (.iconst 0, 1) := by decide +kernel
theorem dX2_run_7 : decode cX2_run 7 = .ok (.invokevirtual 93, 3) := by decide +kernel
theorem dX2_run_10 : decode cX2_run 10 = .ok (.return_, 1) := by decide +kernel
theorem dX2_gather_0 : decode cX2_gather 0 = .ok (.aload_n 0, 1) := by decide +kernel
theorem dX2_gather_1 : decode cX2_gather 1 = .ok (.iconst 0, 1) := by decide +kernel
theorem dX2_gather_2 : decode cX2_gather 2 = .ok (.putfield 97, 3) := by decide +kernel
theorem dX2_gather_5 : decode cX2_gather 5 = .ok (.aload_n 0, 1) := by decide +kernel
theorem dX2_gather_6 : decode cX2_gather 6 = .ok (.iconst 0, 1) := by decide +kernel
theorem dX2_gather_7 : decode cX2_gather 7 = .ok (.putfield 100, 3) := by decide +kernel
theorem dX2_gather_10 : decode cX2_gather 10 = .ok (.aload_n 0, 1) := by decide +kernel
theorem dX2_gather_11 : decode cX2_gather 11 = .ok (.iconst 0, 1) := by decide +kernel
theorem dX2_gather_12 : decode cX2_gather 12 = .ok (.putfield 103, 3) := by decide +kernel
theorem dX2_gather_15 : decode cX2_gather 15 = .ok (.iconst 0, 1) := by decide +kernel
theorem dX2_gather_16 : decode cX2_gather 16 = .ok (.istore_n 3, 1) := by decide +kernel
theorem dX2_gather_17 : decode cX2_gather 17 = .ok (.iconst 0, 1) := by decide +kernel
theorem dX2_gather_18 : decode cX2_gather 18 = .ok (.istore 4, 2) := by decide +kernel
theorem dX2_gather_20 : decode cX2_gather 20 = .ok (.iload 4, 2) := by decide +kernel
theorem dX2_gather_22 : decode cX2_gather 22 = .ok (.aload_n 1, 1) := by decide +kernel
theorem dX2_gather_23 : decode cX2_gather 23 = .ok (.getfield 60, 3) := by decide +kernel
theorem dX2_gather_26 : decode cX2_gather 26 = .ok (.if_icmp .ge 109, 3) := by decide +kernel
theorem dX2_gather_29 : decode cX2_gather 29 = .ok (.iload_n 2, 1) := by decide +kernel
theorem dX2_gather_30 : decode cX2_gather 30 = .ok (.iconst (-1), 1) := by decide +kernel
theorem dX2_gather_31 : decode cX2_gather 31 = .ok (.if_icmp .eq 14, 3) := by decide +kernel
theorem dX2_gather_34 : decode cX2_gather 34 = .ok (.aload_n 1, 1) := by decide +kernel
theorem dX2_gather_35 : decode cX2_gather 35 = .ok (.getfield 106, 3) := by decide +kernel
theorem dX2_gather_38 : decode cX2_gather 38 = .ok (.iload 4, 2) := by decide +kernel
theorem dX2_gather_40 : decode cX2_gather 40 = .ok (.iaload, 1) := by decide +kernel
theorem dX2_gather_41 : decode cX2_gather 41 = .ok (.iload_n 2, 1) := by decide +kernel
theorem dX2_gather_42 : decode cX2_gather 42 = .ok (.if_icmp .ne 87, 3) := by decide +kernel
theorem dX2_gather_45 : decode cX2_gather 45 = .ok (.aload_n 0, 1) := by decide +kernel
theorem dX2_gather_46 : decode cX2_gather 46 = .ok (.aload_n 1, 1) := by decide +kernel
theorem dX2_gather_47 : decode cX2_gather 47 = .ok (.iload 4, 2) := by decide +kernel
theorem dX2_gather_49 : decode cX2_gather 49 = .ok (.invokevirtual 109, 3) := by decide +kernel
theorem dX2_gather_52 : decode cX2_gather 52 = .ok (.ifCond .eq 77, 3) := by decide +kernel
theorem dX2_gather_55 : decode cX2_gather 55 = .ok (.aload_n 0, 1) := by decide +kernel
theorem dX2_gather_56 : decode cX2_gather 56 = .ok (.getfield 27, 3) := by decide +kernel
theorem dX2_gather_59 : decode cX2_gather 59 = .ok (.aload_n 0, 1) := by decide +kernel
theorem dX2_gather_60 : decode cX2_gather 60 = .ok (.getfield 97, 3) := by decide +kernel
theorem dX2_gather_63 : decode cX2_gather 63 = .ok (.iload 4, 2) := by decide +kernel
theorem dX2_gather_65 : decode cX2_gather 65 = .ok (.iastore, 1) := by decide +kernel
theorem dX2_gather_66 : decode cX2_gather 66 = .ok (.aload_n 0, 1) := by decide +kernel
theorem dX2_gather_67 : decode cX2_gather 67 = .ok (.aload_n 1, 1) := by decide +kernel
theorem dX2_gather_68 : decode cX2_gather 68 = .ok (.iload 4, 2) := by decide +kernel
theorem dX2_gather_70 : decode cX2_gather 70 = .ok (.invokevirtual 113, 3) := by decide +kernel
theorem dX2_gather_73 : decode cX2_gather 73 = .ok (.aload_n 0, 1) := by decide +kernel
theorem dX2_gather_74 : decode cX2_gather 74 = .ok (.dup, 1) := by decide +kernel
theorem dX2_gather_75 : decode cX2_gather 75 = .ok (.getfield 97, 3) := by decide +kernel
theorem dX2_gather_78 : decode cX2_gather 78 = .ok (.iconst 1, 1) := by decide +kernel
theorem dX2_gather_79 : decode cX2_gather 79 = .ok (.iadd, 1) := by decide +kernel
theorem dX2_gather_80 : decode cX2_gather 80 = .ok (.putfield 97, 3) := by decide +kernel
theorem dX2_gather_83 : decode cX2_gather 83 = .ok (.aload_n 0, 1) := by decide +kernel
theorem dX2_gather_84 : decode cX2_gather 84 = .ok (.aload_n 0, 1) := by decide +kernel
theorem dX2_gather_85 : decode cX2_gather 85 = .ok (.getfield 100, 3) := by decide +kernel
theorem dX2_gather_88 : decode cX2_gather 88 = .ok (.aload_n 1, 1) := by decide +kernel
theorem dX2_gather_89 : decode cX2_gather 89 = .ok (.getfield 116, 3) := by decide +kernel
theorem dX2_gather_92 : decode cX2_gather 92 = .ok (.iload 4, 2) := by decide +kernel
theorem dX2_gather_94 : decode cX2_gather 94 = .ok (.iaload, 1) := by decide +kernel
theorem dX2_gather_95 : decode cX2_gather 95 = .ok (.invokestatic 119, 3) := by decide +kernel
theorem dX2_gather_98 : decode cX2_gather 98 = .ok (.putfield 100, 3) := by decide +kernel
theorem dX2_gather_101 : decode cX2_gather 101 = .ok (.aload_n 0, 1) := by decide +kernel
theorem dX2_gather_102 : decode cX2_gather 102 = .ok (.aload_n 0, 1) := by decide +kernel
theorem dX2_gather_103 : decode cX2_gather 103 = .ok (.getfield 103, 3) := by decide +kernel
theorem dX2_gather_106 : decode cX2_gather 106 = .ok (.aload_n 0, 1) := by decide +kernel
theorem dX2_gather_107 : decode cX2_gather 107 = .ok (.getfield 18, 3) := by decide +kernel
theorem dX2_gather_110 : decode cX2_gather 110 = .ok (.iload 4, 2) := by decide +kernel
theorem dX2_gather_112 : decode cX2_gather 112 = .ok (.iaload, 1) := by decide +kernel
theorem dX2_gather_113 : decode cX2_gather 113 = .ok (.invokestatic 119, 3) := by decide +kernel
theorem dX2_gather_116 : decode cX2_gather 116 = .ok (.putfield 103, 3) := by decide +kernel
theorem dX2_gather_119 : decode cX2_gather 119 = .ok (.iload_n 3, 1) := by decide +kernel
theorem dX2_gather_120 : decode cX2_gather 120 = .ok (.aload_n 1, 1) := by decide +kernel
theorem dX2_gather_121 : decode cX2_gather 121 = .ok (.getfield 122, 3) := by decide +kernel
theorem dX2_gather_124 : decode cX2_gather 124 = .ok (.iload 4, 2) := by decide +kernel
theorem dX2_gather_126 : decode cX2_gather 126 = .ok (.iaload, 1) := by decide +kernel
theorem dX2_gather_127 : decode cX2_gather 127 = .ok (.iadd, 1) := by decide +kernel
theorem dX2_gather_128 : decode cX2_gather 128 = .ok (.istore_n 3, 1) := by decide +kernel
theorem dX2_gather_129 : decode cX2_gather 129 = .ok (.iinc 4 1, 3) := by decide +kernel
theorem dX2_gather_132 : decode cX2_gather 132 = .ok (.goto (-112), 3) := by decide +kernel
theorem dX2_gather_135 : decode cX2_gather 135 = .ok (.aload_n 0, 1) := by decide +kernel
theorem dX2_gather_136 : decode cX2_gather 136 = .ok (.getfield 71, 3) := by decide +kernel
theorem dX2_gather_139 : decode cX2_gather 139 = .ok (.ifCond .le 12, 3) := by decide +kernel
theorem dX2_gather_142 : decode cX2_gather 142 = .ok (.iload_n 3, 1) := by decide +kernel
theorem dX2_gather_143 : decode cX2_gather 143 = .ok (.ifCond .ne 8, 3) := by decide +kernel
theorem dX2_gather_146 : decode cX2_gather 146 = .ok (.aload_n 0, 1) := by decide +kernel
theorem dX2_gather_147 : decode cX2_gather 147 = .ok (.iconst 0, 1) := by decide +kernel
theorem dX2_gather_148 : decode cX2_gather 148 = .ok (.putfield 97, 3) := by decide +kernel
theorem dX2_gather_151 : decode cX2_gather 151 = .ok (.return_, 1) := by decide +kernel
theorem dX2_isFreeInTime_0 : decode cX2_isFreeInTime 0 = .ok (.aload_n 0, 1) := by decide +kernel
theorem dX2_isFreeInTime_1 : decode cX2_isFreeInTime 1 = .ok (.getfield 68, 3) := by decide +kernel
theorem dX2_isFreeInTime_4 : decode cX2_isFreeInTime 4 = .ok (.aload_n 1, 1) := by decide +kernel
theorem dX2_isFreeInTime_5 : decode cX2_isFreeInTime 5 = .ok (.getfield 116, 3) := by decide +kernel
theorem dX2_isFreeInTime_8 : decode cX2_isFreeInTime 8 = .ok (.iload_n 2, 1) := by decide +kernel
theorem dX2_isFreeInTime_9 : decode cX2_isFreeInTime 9 = .ok (.iaload, 1) := by decide +kernel
theorem dX2_isFreeInTime_10 : decode cX2_isFreeInTime 10 = .ok (.isub, 1) := by decide +kernel
theorem dX2_isFreeInTime_11 : decode cX2_isFreeInTime 11 = .ok (.istore_n 3, 1) := by decide +kernel
theorem dX2_isFreeInTime_12 : decode cX2_isFreeInTime 12 = .ok (.aload_n 0, 1) := by decide +kernel
theorem dX2_isFreeInTime_13 : decode cX2_isFreeInTime 13 = .ok (.getfield 21, 3) := by decide +kernel
theorem dX2_isFreeInTime_16 : decode cX2_isFreeInTime 16 = .ok (.iload_n 2, 1) := by decide +kernel
theorem dX2_isFreeInTime_17 : decode cX2_isFreeInTime 17 = .ok (.iaload, 1) := by decide +kernel
theorem dX2_isFreeInTime_18 : decode cX2_isFreeInTime 18 = .ok (.iload_n 3, 1) := by decide +kernel
theorem dX2_isFreeInTime_19 : decode cX2_isFreeInTime 19 = .ok (.if_icmp .gt 22, 3) := by decide +kernel
theorem dX2_isFreeInTime_22 : decode cX2_isFreeInTime 22 = .ok (.aload_n 0, 1) := by decide +kernel
theorem dX2_isFreeInTime_23 : decode cX2_isFreeInTime 23 = .ok (.getfield 24, 3) := by decide +kernel
theorem dX2_isFreeInTime_26 : decode cX2_isFreeInTime 26 = .ok (.aload_n 1, 1) := by decide +kernel
theorem dX2_isFreeInTime_27 : decode cX2_isFreeInTime 27 = .ok (.getfield 125, 3) := by decide +kernel
theorem dX2_isFreeInTime_30 : decode cX2_isFreeInTime 30 = .ok (.iload_n 2, 1) := by decide +kernel
theorem dX2_isFreeInTime_31 : decode cX2_isFreeInTime 31 = .ok (.iaload, 1) := by decide +kernel
theorem dX2_isFreeInTime_32 : decode cX2_isFreeInTime 32 = .ok (.iaload, 1) := by decide +kernel
theorem dX2_isFreeInTime_33 : decode cX2_isFreeInTime 33 = .ok (.iload_n 3, 1) := by decide +kernel
theorem dX2_isFreeInTime_34 : decode cX2_isFreeInTime 34 = .ok (.if_icmp .gt 7, 3) := by decide +kernel
theorem dX2_isFreeInTime_37 : decode cX2_isFreeInTime 37 = .ok (.iconst 1, 1) := by decide +kernel
theorem dX2_isFreeInTime_38 : decode cX2_isFreeInTime 38 = .ok (.goto 4, 3) := by decide +kernel
theorem dX2_isFreeInTime_41 : decode cX2_isFreeInTime 41 = .ok (.iconst 0, 1) := by decide +kernel
theorem dX2_isFreeInTime_42 : decode cX2_isFreeInTime 42 = .ok (.ireturn, 1) := by decide +kernel
theorem dX2_sortIn_0 : decode cX2_sortIn 0 = .ok (.aload_n 0, 1) := by decide +kernel
theorem dX2_sortIn_1 : decode cX2_sortIn 1 = .ok (.getfield 97, 3) := by decide +kernel
theorem dX2_sortIn_4 : decode cX2_sortIn 4 = .ok (.istore_n 3, 1) := by decide +kernel
theorem dX2_sortIn_5 : decode cX2_sortIn 5 = .ok (.iload_n 3, 1) := by decide +kernel
theorem dX2_sortIn_6 : decode cX2_sortIn 6 = .ok (.ifCond .le 45, 3) := by decide +kernel
theorem dX2_sortIn_9 : decode cX2_sortIn 9 = .ok (.aload_n 1, 1) := by decide +kernel
theorem dX2_sortIn_10 : decode cX2_sortIn 10 = .ok (.getfield 116, 3) := by decide +kernel
theorem dX2_sortIn_13 : decode cX2_sortIn 13 = .ok (.aload_n 0, 1) := by decide +kernel
theorem dX2_sortIn_14 : decode cX2_sortIn 14 = .ok (.getfield 30, 3) := by decide +kernel
theorem dX2_sortIn_17 : decode cX2_sortIn 17 = .ok (.iload_n 3, 1) := by decide +kernel
theorem dX2_sortIn_18 : decode cX2_sortIn 18 = .ok (.iconst 1, 1) := by decide +kernel
theorem dX2_sortIn_19 : decode cX2_sortIn 19 = .ok (.isub, 1) := by decide +kernel
theorem dX2_sortIn_20 : decode cX2_sortIn 20 = .ok (.iaload, 1) := by decide +kernel
theorem dX2_sortIn_21 : decode cX2_sortIn 21 = .ok (.iaload, 1) := by decide +kernel
theorem dX2_sortIn_22 : decode cX2_sortIn 22 = .ok (.aload_n 1, 1) := by decide +kernel
theorem dX2_sortIn_23 : decode cX2_sortIn 23 = .ok (.getfield 116, 3) := by decide +kernel
theorem dX2_sortIn_26 : decode cX2_sortIn 26 = .ok (.iload_n 2, 1) := by decide +kernel
theorem dX2_sortIn_27 : decode cX2_sortIn 27 = .ok (.iaload, 1) := by decide +kernel
theorem dX2_sortIn_28 : decode cX2_sortIn 28 = .ok (.if_icmp .ge 23, 3) := by decide +kernel
theorem dX2_sortIn_31 : decode cX2_sortIn 31 = .ok (.aload_n 0, 1) := by decide +kernel
theorem dX2_sortIn_32 : decode cX2_sortIn 32 = .ok (.getfield 30, 3) := by decide +kernel
theorem dX2_sortIn_35 : decode cX2_sortIn 35 = .ok (.iload_n 3, 1) := by decide +kernel
theorem dX2_sortIn_36 : decode cX2_sortIn 36 = .ok (.aload_n 0, 1) := by decide +kernel
theorem dX2_sortIn_37 : decode cX2_sortIn 37 = .ok (.getfield 30, 3) := by decide +kernel
theorem dX2_sortIn_40 : decode cX2_sortIn 40 = .ok (.iload_n 3, 1) := by decide +kernel
theorem dX2_sortIn_41 : decode cX2_sortIn 41 = .ok (.iconst 1, 1) := by decide +kernel
theorem dX2_sortIn_42 : decode cX2_sortIn 42 = .ok (.isub, 1) := by decide +kernel
theorem dX2_sortIn_43 : decode cX2_sortIn 43 = .ok (.iaload, 1) := by decide +kernel
theorem dX2_sortIn_44 : decode cX2_sortIn 44 = .ok (.iastore, 1) := by decide +kernel
theorem dX2_sortIn_45 : decode cX2_sortIn 45 = .ok (.iinc 3 (-1), 3) := by decide +kernel
theorem dX2_sortIn_48 : decode cX2_sortIn 48 = .ok (.goto (-43), 3) := by decide +kernel
theorem dX2_sortIn_51 : decode cX2_sortIn 51 = .ok (.aload_n 0, 1) := by decide +kernel
theorem dX2_sortIn_52 : decode cX2_sortIn 52 = .ok (.getfield 30, 3) := by decide +kernel
theorem dX2_sortIn_55 : decode cX2_sortIn 55 = .ok (.iload_n 3, 1) := by decide +kernel
theorem dX2_sortIn_56 : decode cX2_sortIn 56 = .ok (.iload_n 2, 1) := by decide +kernel
theorem dX2_sortIn_57 : decode cX2_sortIn 57 = .ok (.iastore, 1) := by decide +kernel
theorem dX2_sortIn_58 : decode cX2_sortIn 58 = .ok (.return_, 1) := by decide +kernel
theorem dX2_extend_0 : decode cX2_extend 0 = .ok (.aload_n 0, 1) := by decide +kernel
theorem dX2_extend_1 : decode cX2_extend 1 = .ok (.getfield 57, 3) := by decide +kernel
theorem dX2_extend_4 : decode cX2_extend 4 = .ok (.iload_n 2, 1) := by decide +kernel
theorem dX2_extend_5 : decode cX2_extend 5 = .ok (.isub, 1) := by decide +kernel
theorem dX2_extend_6 : decode cX2_extend 6 = .ok (.istore 7, 2) := by decide +kernel
theorem dX2_extend_8 : decode cX2_extend 8 = .ok (.iload 7, 2) := by decide +kernel
theorem dX2_extend_10 : decode cX2_extend 10 = .ok (.ifCond .le 22, 3) := by decide +kernel
theorem dX2_extend_13 : decode cX2_extend 13 = .ok (.aload_n 0, 1) := by decide +kernel
theorem dX2_extend_14 : decode cX2_extend 14 = .ok (.iload 7, 2) := by decide +kernel
theorem dX2_extend_16 : decode cX2_extend 16 = .ok (.aload_n 0, 1) := by decide +kernel
theorem dX2_extend_17 : decode cX2_extend 17 = .ok (.getfield 68, 3) := by decide +kernel
theorem dX2_extend_20 : decode cX2_extend 20 = .ok (.iload_n 3, 1) := by decide +kernel
theorem dX2_extend_21 : decode cX2_extend 21 = .ok (.isub, 1) := by decide +kernel
theorem dX2_extend_22 : decode cX2_extend 22 = .ok (.iload 5, 2) := by decide +kernel
theorem dX2_extend_24 : decode cX2_extend 24 = .ok (.iload 6, 2) := by decide +kernel
theorem dX2_extend_26 : decode cX2_extend 26 = .ok (.invokevirtual 128, 3) := by decide +kernel
theorem dX2_extend_29 : decode cX2_extend 29 = .ok (.ifCond .eq 4, 3) := by decide +kernel
theorem dX2_extend_32 : decode cX2_extend 32 = .ok (.return_, 1) := by decide +kernel
theorem dX2_extend_33 : decode cX2_extend 33 = .ok (.iload 7, 2) := by decide +kernel
theorem dX2_extend_35 : decode cX2_extend 35 = .ok (.iconst 1, 1) := by decide +kernel
theorem dX2_extend_36 : decode cX2_extend 36 = .ok (.if_icmp .ne 17, 3) := by decide +kernel
theorem dX2_extend_39 : decode cX2_extend 39 = .ok (.aload_n 0, 1) := by decide +kernel
theorem dX2_extend_40 : decode cX2_extend 40 = .ok (.aload_n 1, 1) := by decide +kernel
theorem dX2_extend_41 : decode cX2_extend 41 = .ok (.iload_n 2, 1) := by decide +kernel
theorem dX2_extend_42 : decode cX2_extend 42 = .ok (.iload_n 3, 1) := by decide +kernel
theorem dX2_extend_43 : decode cX2_extend 43 = .ok (.iload 4, 2) := by decide +kernel
theorem dX2_extend_45 : decode cX2_extend 45 = .ok (.iload 5, 2) := by decide +kernel
theorem dX2_extend_47 : decode cX2_extend 47 = .ok (.iload 6, 2) := by decide +kernel
theorem dX2_extend_49 : decode cX2_extend 49 = .ok (.invokevirtual 132, 3) := by decide +kernel
theorem dX2_extend_52 : decode cX2_extend 52 = .ok (.return_, 1) := by decide +kernel
theorem dX2_extend_53 : decode cX2_extend 53 = .ok (.iconst 0, 1) := by decide +kernel
theorem dX2_extend_54 : decode cX2_extend 54 = .ok (.istore 8, 2) := by decide +kernel
theorem dX2_extend_56 : decode cX2_extend 56 = .ok (.iload 8, 2) := by decide +kernel
theorem dX2_extend_58 : decode cX2_extend 58 = .ok (.aload_n 0, 1) := by decide +kernel
theorem dX2_extend_59 : decode cX2_extend 59 = .ok (.getfield 97, 3) := by decide +kernel
theorem dX2_extend_62 : decode cX2_extend 62 = .ok (.if_icmp .ge 60, 3) := by decide +kernel
theorem dX2_extend_65 : decode cX2_extend 65 = .ok (.aload_n 0, 1) := by decide +kernel
theorem dX2_extend_66 : decode cX2_extend 66 = .ok (.getfield 27, 3) := by decide +kernel
theorem dX2_extend_69 : decode cX2_extend 69 = .ok (.iload 8, 2) := by decide +kernel
theorem dX2_extend_71 : decode cX2_extend 71 = .ok (.iaload, 1) := by decide +kernel
theorem dX2_extend_72 : decode cX2_extend 72 = .ok (.istore 9, 2) := by decide +kernel
theorem dX2_extend_74 : decode cX2_extend 74 = .ok (.aload_n 1, 1) := by decide +kernel
theorem dX2_extend_75 : decode cX2_extend 75 = .ok (.getfield 116, 3) := by decide +kernel
theorem dX2_extend_78 : decode cX2_extend 78 = .ok (.iload 9, 2) := by decide +kernel
theorem dX2_extend_80 : decode cX2_extend 80 = .ok (.iaload, 1) := by decide +kernel
theorem dX2_extend_81 : decode cX2_extend 81 = .ok (.aload_n 0, 1) := by decide +kernel
theorem dX2_extend_82 : decode cX2_extend 82 = .ok (.getfield 68, 3) := by decide +kernel
theorem dX2_extend_85 : decode cX2_extend 85 = .ok (.iload_n 3, 1) := by decide +kernel
theorem dX2_extend_86 : decode cX2_extend 86 = .ok (.isub, 1) := by decide +kernel
theorem dX2_extend_87 : decode cX2_extend 87 = .ok (.if_icmp .gt 29, 3) := by decide +kernel
theorem dX2_extend_90 : decode cX2_extend 90 = .ok (.aload_n 0, 1) := by decide +kernel
theorem dX2_extend_91 : decode cX2_extend 91 = .ok (.aload_n 1, 1) := by decide +kernel
theorem dX2_extend_92 : decode cX2_extend 92 = .ok (.iload 9, 2) := by decide +kernel
theorem dX2_extend_94 : decode cX2_extend 94 = .ok (.iload_n 3, 1) := by decide +kernel
theorem dX2_extend_95 : decode cX2_extend 95 = .ok (.iload 4, 2) := by decide +kernel
theorem dX2_extend_97 : decode cX2_extend 97 = .ok (.invokevirtual 135, 3) := by decide +kernel
theorem dX2_extend_100 : decode cX2_extend 100 = .ok (.ifCond .eq 16, 3) := by decide +kernel
theorem dX2_extend_103 : decode cX2_extend 103 = .ok (.aload_n 0, 1) := by decide +kernel
theorem dX2_extend_104 : decode cX2_extend 104 = .ok (.aload_n 1, 1) := by decide +kernel
theorem dX2_extend_105 : decode cX2_extend 105 = .ok (.iload_n 2, 1) := by decide +kernel
theorem dX2_extend_106 : decode cX2_extend 106 = .ok (.iload 9, 2) := by decide +kernel
theorem dX2_extend_108 : decode cX2_extend 108 = .ok (.iload_n 3, 1) := by decide +kernel
theorem dX2_extend_109 : decode cX2_extend 109 = .ok (.iload 5, 2) := by decide +kernel
theorem dX2_extend_111 : decode cX2_extend 111 = .ok (.iload 6, 2) := by decide +kernel
theorem dX2_extend_113 : decode cX2_extend 113 = .ok (.invokevirtual 139, 3) := by decide +kernel
theorem dX2_extend_116 : decode cX2_extend 116 = .ok (.iinc 8 1, 3) := by decide +kernel
theorem dX2_extend_119 : decode cX2_extend 119 = .ok (.goto (-63), 3) := by decide +kernel
theorem dX2_extend_122 : decode cX2_extend 122 = .ok (.return_, 1) := by decide +kernel
theorem dX2_isHopeless_0 : decode cX2_isHopeless 0 = .ok (.iload 4, 2) := by decide +kernel
theorem dX2_isHopeless_2 : decode cX2_isHopeless 2 = .ok (.iload_n 1, 1) := by decide +kernel
theorem dX2_isHopeless_3 : decode cX2_isHopeless 3 = .ok (.iadd, 1) := by decide +kernel
theorem dX2_isHopeless_4 : decode cX2_isHopeless 4 = .ok (.aload_n 0, 1) := by decide +kernel
theorem dX2_isHopeless_5 : decode cX2_isHopeless 5 = .ok (.getfield 71, 3) := by decide +kernel
theorem dX2_isHopeless_8 : decode cX2_isHopeless 8 = .ok (.if_icmp .ge 5, 3) := by decide +kernel
theorem dX2_isHopeless_11 : decode cX2_isHopeless 11 = .ok (.iconst 1, 1) := by decide +kernel
theorem dX2_isHopeless_12 : decode cX2_isHopeless 12 = .ok (.ireturn, 1) := by decide +kernel
theorem dX2_isHopeless_13 : decode cX2_isHopeless 13 = .ok (.iconst 0, 1) := by decide +kernel
theorem dX2_isHopeless_14 : decode cX2_isHopeless 14 = .ok (.iload_n 2, 1) := by decide +kernel
theorem dX2_isHopeless_15 : decode cX2_isHopeless 15 = .ok (.iload_n 1, 1) := by decide +kernel
theorem dX2_isHopeless_16 : decode cX2_isHopeless 16 = .ok (.aload_n 0, 1) := by decide +kernel
theorem dX2_isHopeless_17 : decode cX2_isHopeless 17 = .ok (.getfield 100, 3) := by decide +kernel
theorem dX2_isHopeless_20 : decode cX2_isHopeless 20 = .ok (.imul, 1) := by decide +kernel
theorem dX2_isHopeless_21 : decode cX2_isHopeless 21 = .ok (.isub, 1) := by decide +kernel
theorem dX2_isHopeless_22 : decode cX2_isHopeless 22 = .ok (.invokestatic 119, 3) := by decide +kernel
theorem dX2_isHopeless_25 : decode cX2_isHopeless 25 = .ok (.istore 5, 2) := by decide +kernel
theorem dX2_isHopeless_27 : decode cX2_isHopeless 27 = .ok (.iload 5, 2) := by decide +kernel
theorem dX2_isHopeless_29 : decode cX2_isHopeless 29 = .ok (.aload_n 0, 1) := by decide +kernel
theorem dX2_isHopeless_30 : decode cX2_isHopeless 30 = .ok (.getfield 77, 3) := by decide +kernel
theorem dX2_isHopeless_33 : decode cX2_isHopeless 33 = .ok (.if_icmp .gt 27, 3) := by decide +kernel
theorem dX2_isHopeless_36 : decode cX2_isHopeless 36 = .ok (.iload 5, 2) := by decide +kernel
theorem dX2_isHopeless_38 : decode cX2_isHopeless 38 = .ok (.aload_n 0, 1) := by decide +kernel
theorem dX2_isHopeless_39 : decode cX2_isHopeless 39 = .ok (.getfield 77, 3) := by decide +kernel
theorem dX2_isHopeless_42 : decode cX2_isHopeless 42 = .ok (.if_icmp .ne 22, 3) := by decide +kernel
theorem dX2_isHopeless_45 : decode cX2_isHopeless 45 = .ok (.iload_n 3, 1) := by decide +kernel
theorem dX2_isHopeless_46 : decode cX2_isHopeless 46 = .ok (.iload_n 1, 1) := by decide +kernel
theorem dX2_isHopeless_47 : decode cX2_isHopeless 47 = .ok (.aload_n 0, 1) := by decide +kernel
theorem dX2_isHopeless_48 : decode cX2_isHopeless 48 = .ok (.getfield 103, 3) := by decide +kernel
theorem dX2_isHopeless_51 : decode cX2_isHopeless 51 = .ok (.imul, 1) := by decide +kernel
theorem dX2_isHopeless_52 : decode cX2_isHopeless 52 = .ok (.iadd, 1) := by decide +kernel
theorem dX2_isHopeless_53 : decode cX2_isHopeless 53 = .ok (.aload_n 0, 1) := by decide +kernel
theorem dX2_isHopeless_54 : decode cX2_isHopeless 54 = .ok (.getfield 80, 3) := by decide +kernel
theorem dX2_isHopeless_57 : decode cX2_isHopeless 57 = .ok (.if_icmp .gt 7, 3) := by decide +kernel
theorem dX2_isHopeless_60 : decode cX2_isHopeless 60 = .ok (.iconst 1, 1) := by decide +kernel
theorem dX2_isHopeless_61 : decode cX2_isHopeless 61 = .ok (.goto 4, 3) := by decide +kernel
theorem dX2_isHopeless_64 : decode cX2_isHopeless 64 = .ok (.iconst 0, 1) := by decide +kernel
theorem dX2_isHopeless_65 : decode cX2_isHopeless 65 = .ok (.ireturn, 1) := by decide +kernel
theorem dX2_tryNext_0 : decode cX2_tryNext 0 = .ok (.aload_n 1, 1) := by decide +kernel
theorem dX2_tryNext_1 : decode cX2_tryNext 1 = .ok (.getfield 125, 3) := by decide +kernel
theorem dX2_tryNext_4 : decode cX2_tryNext 4 = .ok (.iload_n 3, 1) := by decide +kernel
theorem dX2_tryNext_5 : decode cX2_tryNext 5 = .ok (.iaload, 1) := by decide +kernel
theorem dX2_tryNext_6 : decode cX2_tryNext 6 = .ok (.istore 7, 2) := by decide +kernel
theorem dX2_tryNext_8 : decode cX2_tryNext 8 = .ok (.aload_n 0, 1) := by decide +kernel
theorem dX2_tryNext_9 : decode cX2_tryNext 9 = .ok (.getfield 21, 3) := by decide +kernel
theorem dX2_tryNext_12 : decode cX2_tryNext 12 = .ok (.iload_n 3, 1) := by decide +kernel
theorem dX2_tryNext_13 : decode cX2_tryNext 13 = .ok (.iaload, 1) := by decide +kernel
theorem dX2_tryNext_14 : decode cX2_tryNext 14 = .ok (.istore 8, 2) := by decide +kernel
theorem dX2_tryNext_16 : decode cX2_tryNext 16 = .ok (.aload_n 0, 1) := by decide +kernel
theorem dX2_tryNext_17 : decode cX2_tryNext 17 = .ok (.getfield 24, 3) := by decide +kernel
theorem dX2_tryNext_20 : decode cX2_tryNext 20 = .ok (.iload 7, 2) := by decide +kernel
theorem dX2_tryNext_22 : decode cX2_tryNext 22 = .ok (.iaload, 1) := by decide +kernel
theorem dX2_tryNext_23 : decode cX2_tryNext 23 = .ok (.istore 9, 2) := by decide +kernel
theorem dX2_tryNext_25 : decode cX2_tryNext 25 = .ok (.iload 4, 2) := by decide +kernel
theorem dX2_tryNext_27 : decode cX2_tryNext 27 = .ok (.aload_n 1, 1) := by decide +kernel
theorem dX2_tryNext_28 : decode cX2_tryNext 28 = .ok (.getfield 116, 3) := by decide +kernel
theorem dX2_tryNext_31 : decode cX2_tryNext 31 = .ok (.iload_n 3, 1) := by decide +kernel
theorem dX2_tryNext_32 : decode cX2_tryNext 32 = .ok (.iaload, 1) := by decide +kernel
theorem dX2_tryNext_33 : decode cX2_tryNext 33 = .ok (.iadd, 1) := by decide +kernel
theorem dX2_tryNext_34 : decode cX2_tryNext 34 = .ok (.istore 10, 2) := by decide +kernel
theorem dX2_tryNext_36 : decode cX2_tryNext 36 = .ok (.iload 5, 2) := by decide +kernel
theorem dX2_tryNext_38 : decode cX2_tryNext 38 = .ok (.aload_n 0, 1) := by decide +kernel
theorem dX2_tryNext_39 : decode cX2_tryNext 39 = .ok (.getfield 18, 3) := by decide +kernel
theorem dX2_tryNext_42 : decode cX2_tryNext 42 = .ok (.iload_n 3, 1) := by decide +kernel
theorem dX2_tryNext_43 : decode cX2_tryNext 43 = .ok (.iaload, 1) := by decide +kernel
theorem dX2_tryNext_44 : decode cX2_tryNext 44 = .ok (.iadd, 1) := by decide +kernel
theorem dX2_tryNext_45 : decode cX2_tryNext 45 = .ok (.istore 11, 2) := by decide +kernel
theorem dX2_tryNext_47 : decode cX2_tryNext 47 = .ok (.iload 6, 2) := by decide +kernel
theorem dX2_tryNext_49 : decode cX2_tryNext 49 = .ok (.aload_n 1, 1) := by decide +kernel
theorem dX2_tryNext_50 : decode cX2_tryNext 50 = .ok (.getfield 122, 3) := by decide +kernel
theorem dX2_tryNext_53 : decode cX2_tryNext 53 = .ok (.iload_n 3, 1) := by decide +kernel
theorem dX2_tryNext_54 : decode cX2_tryNext 54 = .ok (.iaload, 1) := by decide +kernel
theorem dX2_tryNext_55 : decode cX2_tryNext 55 = .ok (.iadd, 1) := by decide +kernel
theorem dX2_tryNext_56 : decode cX2_tryNext 56 = .ok (.istore 12, 2) := by decide +kernel
theorem dX2_tryNext_58 : decode cX2_tryNext 58 = .ok (.aload_n 0, 1) := by decide +kernel
theorem dX2_tryNext_59 : decode cX2_tryNext 59 = .ok (.getfield 15, 3) := by decide +kernel
theorem dX2_tryNext_62 : decode cX2_tryNext 62 = .ok (.iload_n 2, 1) := by decide +kernel
theorem dX2_tryNext_63 : decode cX2_tryNext 63 = .ok (.iload_n 3, 1) := by decide +kernel
theorem dX2_tryNext_64 : decode cX2_tryNext 64 = .ok (.iastore, 1) := by decide +kernel
theorem dX2_tryNext_65 : decode cX2_tryNext 65 = .ok (.aload_n 0, 1) := by decide +kernel
theorem dX2_tryNext_66 : decode cX2_tryNext 66 = .ok (.iload_n 2, 1) := by decide +kernel
theorem dX2_tryNext_67 : decode cX2_tryNext 67 = .ok (.iconst 1, 1) := by decide +kernel
theorem dX2_tryNext_68 : decode cX2_tryNext 68 = .ok (.iadd, 1) := by decide +kernel
theorem dX2_tryNext_69 : decode cX2_tryNext 69 = .ok (.aload_n 0, 1) := by decide +kernel
theorem dX2_tryNext_70 : decode cX2_tryNext 70 = .ok (.getfield 68, 3) := by decide +kernel
theorem dX2_tryNext_73 : decode cX2_tryNext 73 = .ok (.iload 10, 2) := by decide +kernel
theorem dX2_tryNext_75 : decode cX2_tryNext 75 = .ok (.isub, 1) := by decide +kernel
theorem dX2_tryNext_76 : decode cX2_tryNext 76 = .ok (.iload 11, 2) := by decide +kernel
theorem dX2_tryNext_78 : decode cX2_tryNext 78 = .ok (.iload 12, 2) := by decide +kernel
theorem dX2_tryNext_80 : decode cX2_tryNext 80 = .ok (.invokevirtual 142, 3) := by decide +kernel
theorem dX2_tryNext_83 : decode cX2_tryNext 83 = .ok (.aload_n 0, 1) := by decide +kernel
theorem dX2_tryNext_84 : decode cX2_tryNext 84 = .ok (.getfield 21, 3) := by decide +kernel
theorem dX2_tryNext_87 : decode cX2_tryNext 87 = .ok (.iload_n 3, 1) := by decide +kernel
theorem dX2_tryNext_88 : decode cX2_tryNext 88 = .ok (.iload 4, 2) := by decide +kernel
theorem dX2_tryNext_90 : decode cX2_tryNext 90 = .ok (.aload_n 0, 1) := by decide +kernel
theorem dX2_tryNext_91 : decode cX2_tryNext 91 = .ok (.getfield 38, 3) := by decide +kernel
theorem dX2_tryNext_94 : decode cX2_tryNext 94 = .ok (.iadd, 1) := by decide +kernel
theorem dX2_tryNext_95 : decode cX2_tryNext 95 = .ok (.iastore, 1) := by decide +kernel
theorem dX2_tryNext_96 : decode cX2_tryNext 96 = .ok (.aload_n 0, 1) := by decide +kernel
theorem dX2_tryNext_97 : decode cX2_tryNext 97 = .ok (.getfield 24, 3) := by decide +kernel
theorem dX2_tryNext_100 : decode cX2_tryNext 100 = .ok (.iload 7, 2) := by decide +kernel
theorem dX2_tryNext_102 : decode cX2_tryNext 102 = .ok (.iload 4, 2) := by decide +kernel
theorem dX2_tryNext_104 : decode cX2_tryNext 104 = .ok (.aload_n 0, 1) := by decide +kernel
theorem dX2_tryNext_105 : decode cX2_tryNext 105 = .ok (.getfield 42, 3) := by decide +kernel
theorem dX2_tryNext_108 : decode cX2_tryNext 108 = .ok (.iadd, 1) := by decide +kernel
theorem dX2_tryNext_109 : decode cX2_tryNext 109 = .ok (.iastore, 1) := by decide +kernel
theorem dX2_tryNext_110 : decode cX2_tryNext 110 = .ok (.aload_n 0, 1) := by decide +kernel
theorem dX2_tryNext_111 : decode cX2_tryNext 111 = .ok (.aload_n 1, 1) := by decide +kernel
theorem dX2_tryNext_112 : decode cX2_tryNext 112 = .ok (.iload_n 2, 1) := by decide +kernel
theorem dX2_tryNext_113 : decode cX2_tryNext 113 = .ok (.iconst 1, 1) := by decide +kernel
theorem dX2_tryNext_114 : decode cX2_tryNext 114 = .ok (.iadd, 1) := by decide +kernel
theorem dX2_tryNext_115 : decode cX2_tryNext 115 = .ok (.iload 10, 2) := by decide +kernel
theorem dX2_tryNext_117 : decode cX2_tryNext 117 = .ok (.aload_n 1, 1) := by decide +kernel
theorem dX2_tryNext_118 : decode cX2_tryNext 118 = .ok (.getfield 146, 3) := by decide +kernel
theorem dX2_tryNext_121 : decode cX2_tryNext 121 = .ok (.iload_n 3, 1) := by decide +kernel
theorem dX2_tryNext_122 : decode cX2_tryNext 122 = .ok (.iaload, 1) := by decide +kernel
theorem dX2_tryNext_123 : decode cX2_tryNext 123 = .ok (.iload 11, 2) := by decide +kernel
theorem dX2_tryNext_125 : decode cX2_tryNext 125 = .ok (.iload 12, 2) := by decide +kernel
theorem dX2_tryNext_127 : decode cX2_tryNext 127 = .ok (.invokevirtual 93, 3) := by decide +kernel
theorem dX2_tryNext_130 : decode cX2_tryNext 130 = .ok (.aload_n 0, 1) := by decide +kernel
theorem dX2_tryNext_131 : decode cX2_tryNext 131 = .ok (.getfield 21, 3) := by decide +kernel
theorem dX2_tryNext_134 : decode cX2_tryNext 134 = .ok (.iload_n 3, 1) := by decide +kernel
theorem dX2_tryNext_135 : decode cX2_tryNext 135 = .ok (.iload 8, 2) := by decide +kernel
theorem dX2_tryNext_137 : decode cX2_tryNext 137 = .ok (.iastore, 1) := by decide +kernel
theorem dX2_tryNext_138 : decode cX2_tryNext 138 = .ok (.aload_n 0, 1) := by decide +kernel
theorem dX2_tryNext_139 : decode cX2_tryNext 139 = .ok (.getfield 24, 3) := by decide +kernel
theorem dX2_tryNext_142 : decode cX2_tryNext 142 = .ok (.iload 7, 2) := by decide +kernel
theorem dX2_tryNext_144 : decode cX2_tryNext 144 = .ok (.iload 9, 2) := by decide +kernel
theorem dX2_tryNext_146 : decode cX2_tryNext 146 = .ok (.iastore, 1) := by decide +kernel
theorem dX2_tryNext_147 : decode cX2_tryNext 147 = .ok (.return_, 1) := by decide +kernel
theorem dX2_tryLast_0 : decode cX2_tryLast 0 = .ok (.aload_n 0, 1) := by decide +kernel
theorem dX2_tryLast_1 : decode cX2_tryLast 1 = .ok (.getfield 68, 3) := by decide +kernel
theorem dX2_tryLast_4 : decode cX2_tryLast 4 = .ok (.iload_n 3, 1) := by decide +kernel
theorem dX2_tryLast_5 : decode cX2_tryLast 5 = .ok (.isub, 1) := by decide +kernel
theorem dX2_tryLast_6 : decode cX2_tryLast 6 = .ok (.istore 7, 2) := by decide +kernel
theorem dX2_tryLast_8 : decode cX2_tryLast 8 = .ok (.aload_n 0, 1) := by decide +kernel
theorem dX2_tryLast_9 : decode cX2_tryLast 9 = .ok (.aload_n 1, 1) := by decide +kernel
theorem dX2_tryLast_10 : decode cX2_tryLast 10 = .ok (.iload 7, 2) := by decide +kernel
theorem dX2_tryLast_12 : decode cX2_tryLast 12 = .ok (.invokevirtual 149, 3) := by decide +kernel
theorem dX2_tryLast_15 : decode cX2_tryLast 15 = .ok (.istore 8, 2) := by decide +kernel
theorem dX2_tryLast_17 : decode cX2_tryLast 17 = .ok (.iload 8, 2) := by decide +kernel
theorem dX2_tryLast_19 : decode cX2_tryLast 19 = .ok (.aload_n 0, 1) := by decide +kernel
theorem dX2_tryLast_20 : decode cX2_tryLast 20 = .ok (.getfield 97, 3) := by decide +kernel
theorem dX2_tryLast_23 : decode cX2_tryLast 23 = .ok (.if_icmp .ge 90, 3) := by decide +kernel
theorem dX2_tryLast_26 : decode cX2_tryLast 26 = .ok (.aload_n 0, 1) := by decide +kernel
theorem dX2_tryLast_27 : decode cX2_tryLast 27 = .ok (.getfield 30, 3) := by decide +kernel
theorem dX2_tryLast_30 : decode cX2_tryLast 30 = .ok (.iload 8, 2) := by decide +kernel
theorem dX2_tryLast_32 : decode cX2_tryLast 32 = .ok (.iaload, 1) := by decide +kernel
theorem dX2_tryLast_33 : decode cX2_tryLast 33 = .ok (.istore 9, 2) := by decide +kernel
theorem dX2_tryLast_35 : decode cX2_tryLast 35 = .ok (.iload 7, 2) := by decide +kernel
theorem dX2_tryLast_37 : decode cX2_tryLast 37 = .ok (.aload_n 1, 1) := by decide +kernel
theorem dX2_tryLast_38 : decode cX2_tryLast 38 = .ok (.getfield 116, 3) := by decide +kernel
theorem dX2_tryLast_41 : decode cX2_tryLast 41 = .ok (.iload 9, 2) := by decide +kernel
theorem dX2_tryLast_43 : decode cX2_tryLast 43 = .ok (.iaload, 1) := by decide +kernel
theorem dX2_tryLast_44 : decode cX2_tryLast 44 = .ok (.isub, 1) := by decide +kernel
theorem dX2_tryLast_45 : decode cX2_tryLast 45 = .ok (.istore 10, 2) := by decide +kernel
theorem dX2_tryLast_47 : decode cX2_tryLast 47 = .ok (.iload 10, 2) := by decide +kernel
theorem dX2_tryLast_49 : decode cX2_tryLast 49 = .ok (.aload_n 0, 1) := by decide +kernel
theorem dX2_tryLast_50 : decode cX2_tryLast 50 = .ok (.getfield 77, 3) := by decide +kernel
theorem dX2_tryLast_53 : decode cX2_tryLast 53 = .ok (.if_icmp .le 4, 3) := by decide +kernel
theorem dX2_tryLast_56 : decode cX2_tryLast 56 = .ok (.return_, 1) := by decide +kernel
theorem dX2_tryLast_57 : decode cX2_tryLast 57 = .ok (.aload_n 0, 1) := by decide +kernel
theorem dX2_tryLast_58 : decode cX2_tryLast 58 = .ok (.aload_n 1, 1) := by decide +kernel
theorem dX2_tryLast_59 : decode cX2_tryLast 59 = .ok (.iload 9, 2) := by decide +kernel
theorem dX2_tryLast_61 : decode cX2_tryLast 61 = .ok (.iload_n 3, 1) := by decide +kernel
theorem dX2_tryLast_62 : decode cX2_tryLast 62 = .ok (.iload 4, 2) := by decide +kernel
theorem dX2_tryLast_64 : decode cX2_tryLast 64 = .ok (.invokevirtual 135, 3) := by decide +kernel
theorem dX2_tryLast_67 : decode cX2_tryLast 67 = .ok (.ifCond .eq 40, 3) := by decide +kernel
theorem dX2_tryLast_70 : decode cX2_tryLast 70 = .ok (.aload_n 0, 1) := by decide +kernel
theorem dX2_tryLast_71 : decode cX2_tryLast 71 = .ok (.getfield 15, 3) := by decide +kernel
theorem dX2_tryLast_74 : decode cX2_tryLast 74 = .ok (.iload_n 2, 1) := by decide +kernel
theorem dX2_tryLast_75 : decode cX2_tryLast 75 = .ok (.iload 9, 2) := by decide +kernel
theorem dX2_tryLast_77 : decode cX2_tryLast 77 = .ok (.iastore, 1) := by decide +kernel
theorem dX2_tryLast_78 : decode cX2_tryLast 78 = .ok (.aload_n 0, 1) := by decide +kernel
theorem dX2_tryLast_79 : decode cX2_tryLast 79 = .ok (.iload_n 2, 1) := by decide +kernel
theorem dX2_tryLast_80 : decode cX2_tryLast 80 = .ok (.iconst 1, 1) := by decide +kernel
theorem dX2_tryLast_81 : decode cX2_tryLast 81 = .ok (.iadd, 1) := by decide +kernel
theorem dX2_tryLast_82 : decode cX2_tryLast 82 = .ok (.iload 10, 2) := by decide +kernel
theorem dX2_tryLast_84 : decode cX2_tryLast 84 = .ok (.iload 5, 2) := by decide +kernel
theorem dX2_tryLast_86 : decode cX2_tryLast 86 = .ok (.aload_n 0, 1) := by decide +kernel
theorem dX2_tryLast_87 : decode cX2_tryLast 87 = .ok (.getfield 18, 3) := by decide +kernel
theorem dX2_tryLast_90 : decode cX2_tryLast 90 = .ok (.iload 9, 2) := by decide +kernel
theorem dX2_tryLast_92 : decode cX2_tryLast 92 = .ok (.iaload, 1) := by decide +kernel
theorem dX2_tryLast_93 : decode cX2_tryLast 93 = .ok (.iadd, 1) := by decide +kernel
theorem dX2_tryLast_94 : decode cX2_tryLast 94 = .ok (.iload 6, 2) := by decide +kernel
theorem dX2_tryLast_96 : decode cX2_tryLast 96 = .ok (.aload_n 1, 1) := by decide +kernel
theorem dX2_tryLast_97 : decode cX2_tryLast 97 = .ok (.getfield 122, 3) := by decide +kernel
theorem dX2_tryLast_100 : decode cX2_tryLast 100 = .ok (.iload 9, 2) := by decide +kernel
theorem dX2_tryLast_102 : decode cX2_tryLast 102 = .ok (.iaload, 1) := by decide +kernel
theorem dX2_tryLast_103 : decode cX2_tryLast 103 = .ok (.iadd, 1) := by decide +kernel
theorem dX2_tryLast_104 : decode cX2_tryLast 104 = .ok (.invokevirtual 142, 3) := by decide +kernel
theorem dX2_tryLast_107 : decode cX2_tryLast 107 = .ok (.iinc 8 1, 3) := by decide +kernel
theorem dX2_tryLast_110 : decode cX2_tryLast 110 = .ok (.goto (-93), 3) := by decide +kernel
theorem dX2_tryLast_113 : decode cX2_tryLast 113 = .ok (.return_, 1) := by decide +kernel
theorem dX2_firstThatFits_0 : decode cX2_firstThatFits 0 = .ok (.iconst 0, 1) := by decide +kernel
theorem dX2_firstThatFits_1 : decode cX2_firstThatFits 1 = .ok (.istore_n 3, 1) := by decide +kernel
theorem dX2_firstThatFits_2 : decode cX2_firstThatFits 2 = .ok (.aload_n 0, 1) := by decide +kernel
theorem dX2_firstThatFits_3 : decode cX2_firstThatFits 3 = .ok (.getfield 97, 3) := by decide +kernel
theorem dX2_firstThatFits_6 : decode cX2_firstThatFits 6 = .ok (.istore 4, 2) := by decide +kernel
theorem dX2_firstThatFits_8 : decode cX2_firstThatFits 8 = .ok (.iload_n 3, 1) := by decide +kernel
theorem dX2_firstThatFits_9 : decode cX2_firstThatFits 9 = .ok (.iload 4, 2) := by decide +kernel
theorem dX2_firstThatFits_11 : decode cX2_firstThatFits 11 = .ok (.if_icmp .ge 42, 3) := by decide +kernel
theorem dX2_firstThatFits_14 : decode cX2_firstThatFits 14 = .ok (.iload_n 3, 1) := by decide +kernel
theorem dX2_firstThatFits_15 : decode cX2_firstThatFits 15 = .ok (.iload 4, 2) := by decide +kernel
theorem dX2_firstThatFits_17 : decode cX2_firstThatFits 17 = .ok (.iadd, 1) := by decide +kernel
theorem dX2_firstThatFits_18 : decode cX2_firstThatFits 18 = .ok (.iconst 1, 1) := by decide +kernel
theorem dX2_firstThatFits_19 : decode cX2_firstThatFits 19 = .ok (.iushr, 1) := by decide +kernel
theorem dX2_firstThatFits_20 : decode cX2_firstThatFits 20 = .ok (.istore 5, 2) := by decide +kernel
theorem dX2_firstThatFits_22 : decode cX2_firstThatFits 22 = .ok (.aload_n 1, 1) := by decide +kernel
theorem dX2_firstThatFits_23 : decode cX2_firstThatFits 23 = .ok (.getfield 116, 3) := by decide +kernel
theorem dX2_firstThatFits_26 : decode cX2_firstThatFits 26 = .ok (.aload_n 0, 1) := by decide +kernel
theorem dX2_firstThatFits_27 : decode cX2_firstThatFits 27 = .ok (.getfield 30, 3) := by decide +kernel
theorem dX2_firstThatFits_30 : decode cX2_firstThatFits 30 = .ok (.iload 5, 2) := by decide +kernel
theorem dX2_firstThatFits_32 : decode cX2_firstThatFits 32 = .ok (.iaload, 1) := by decide +kernel
theorem dX2_firstThatFits_33 : decode cX2_firstThatFits 33 = .ok (.iaload, 1) := by decide +kernel
theorem dX2_firstThatFits_34 : decode cX2_firstThatFits 34 = .ok (.iload_n 2, 1) := by decide +kernel
theorem dX2_firstThatFits_35 : decode cX2_firstThatFits 35 = .ok (.if_icmp .le 11, 3) := by decide +kernel
theorem dX2_firstThatFits_38 : decode cX2_firstThatFits 38 = .ok (.iload 5, 2) := by decide +kernel
theorem dX2_firstThatFits_40 : decode cX2_firstThatFits 40 = .ok (.iconst 1, 1) := by decide +kernel
theorem dX2_firstThatFits_41 : decode cX2_firstThatFits 41 = .ok (.iadd, 1) := by decide +kernel
theorem dX2_firstThatFits_42 : decode cX2_firstThatFits 42 = .ok (.istore_n 3, 1) := by decide +kernel
theorem dX2_firstThatFits_43 : decode cX2_firstThatFits 43 = .ok (.goto 7, 3) := by decide +kernel
theorem dX2_firstThatFits_46 : decode cX2_firstThatFits 46 = .ok (.iload 5, 2) := by decide +kernel
theorem dX2_firstThatFits_48 : decode cX2_firstThatFits 48 = .ok (.istore 4, 2) := by decide +kernel
theorem dX2_firstThatFits_50 : decode cX2_firstThatFits 50 = .ok (.goto (-42), 3) := by decide +kernel
theorem dX2_firstThatFits_53 : decode cX2_firstThatFits 53 = .ok (.iload_n 3, 1) := by decide +kernel
theorem dX2_firstThatFits_54 : decode cX2_firstThatFits 54 = .ok (.ireturn, 1) := by decide +kernel
theorem dX2_mayBegin_0 : decode cX2_mayBegin 0 = .ok (.iload_n 3, 1) := by decide +kernel
theorem dX2_mayBegin_1 : decode cX2_mayBegin 1 = .ok (.aload_n 0, 1) := by decide +kernel
theorem dX2_mayBegin_2 : decode cX2_mayBegin 2 = .ok (.getfield 21, 3) := by decide +kernel
theorem dX2_mayBegin_5 : decode cX2_mayBegin 5 = .ok (.iload_n 2, 1) := by decide +kernel
theorem dX2_mayBegin_6 : decode cX2_mayBegin 6 = .ok (.iaload, 1) := by decide +kernel
theorem dX2_mayBegin_7 : decode cX2_mayBegin 7 = .ok (.if_icmp .lt 46, 3) := by decide +kernel
theorem dX2_mayBegin_10 : decode cX2_mayBegin 10 = .ok (.iload_n 3, 1) := by decide +kernel
theorem dX2_mayBegin_11 : decode cX2_mayBegin 11 = .ok (.aload_n 0, 1) := by decide +kernel
theorem dX2_mayBegin_12 : decode cX2_mayBegin 12 = .ok (.getfield 24, 3) := by decide +kernel
theorem dX2_mayBegin_15 : decode cX2_mayBegin 15 = .ok (.aload_n 1, 1) := by decide +kernel
theorem dX2_mayBegin_16 : decode cX2_mayBegin 16 = .ok (.getfield 125, 3) := by decide +kernel
theorem dX2_mayBegin_19 : decode cX2_mayBegin 19 = .ok (.iload_n 2, 1) := by decide +kernel
theorem dX2_mayBegin_20 : decode cX2_mayBegin 20 = .ok (.iaload, 1) := by decide +kernel
theorem dX2_mayBegin_21 : decode cX2_mayBegin 21 = .ok (.iaload, 1) := by decide +kernel
theorem dX2_mayBegin_22 : decode cX2_mayBegin 22 = .ok (.if_icmp .lt 31, 3) := by decide +kernel
theorem dX2_mayBegin_25 : decode cX2_mayBegin 25 = .ok (.iload 4, 2) := by decide +kernel
theorem dX2_mayBegin_27 : decode cX2_mayBegin 27 = .ok (.iconst (-1), 1) := by decide +kernel
theorem dX2_mayBegin_28 : decode cX2_mayBegin 28 = .ok (.if_icmp .eq 21, 3) := by decide +kernel
theorem dX2_mayBegin_31 : decode cX2_mayBegin 31 = .ok (.iload 4, 2) := by decide +kernel
theorem dX2_mayBegin_33 : decode cX2_mayBegin 33 = .ok (.aload_n 1, 1) := by decide +kernel
theorem dX2_mayBegin_34 : decode cX2_mayBegin 34 = .ok (.getfield 146, 3) := by decide +kernel
theorem dX2_mayBegin_37 : decode cX2_mayBegin 37 = .ok (.iload_n 2, 1) := by decide +kernel
theorem dX2_mayBegin_38 : decode cX2_mayBegin 38 = .ok (.iaload, 1) := by decide +kernel
theorem dX2_mayBegin_39 : decode cX2_mayBegin 39 = .ok (.invokestatic 153, 3) := by decide +kernel
theorem dX2_mayBegin_42 : decode cX2_mayBegin 42 = .ok (.aload_n 0, 1) := by decide +kernel
theorem dX2_mayBegin_43 : decode cX2_mayBegin 43 = .ok (.getfield 45, 3) := by decide +kernel
theorem dX2_mayBegin_46 : decode cX2_mayBegin 46 = .ok (.if_icmp .gt 7, 3) := by decide +kernel
theorem dX2_mayBegin_49 : decode cX2_mayBegin 49 = .ok (.iconst 1, 1) := by decide +kernel
theorem dX2_mayBegin_50 : decode cX2_mayBegin 50 = .ok (.goto 4, 3) := by decide +kernel
theorem dX2_mayBegin_53 : decode cX2_mayBegin 53 = .ok (.iconst 0, 1) := by decide +kernel
theorem dX2_mayBegin_54 : decode cX2_mayBegin 54 = .ok (.ireturn, 1) := by decide +kernel
theorem dX2_stepsApart_0 : decode cX2_stepsApart 0 = .ok (.iload_n 0, 1) := by decide +kernel
theorem dX2_stepsApart_1 : decode cX2_stepsApart 1 = .ok (.iload_n 1, 1) := by decide +kernel
theorem dX2_stepsApart_2 : decode cX2_stepsApart 2 = .ok (.isub, 1) := by decide +kernel
theorem dX2_stepsApart_3 : decode cX2_stepsApart 3 = .ok (.invokestatic 156, 3) := by decide +kernel
theorem dX2_stepsApart_6 : decode cX2_stepsApart 6 = .ok (.istore_n 2, 1) := by decide +kernel
theorem dX2_stepsApart_7 : decode cX2_stepsApart 7 = .ok (.iload_n 2, 1) := by decide +kernel
theorem dX2_stepsApart_8 : decode cX2_stepsApart 8 = .ok (.bipush 12, 2) := by decide +kernel
theorem dX2_stepsApart_10 : decode cX2_stepsApart 10 = .ok (.iload_n 2, 1) := by decide +kernel
theorem dX2_stepsApart_11 : decode cX2_stepsApart 11 = .ok (.isub, 1) := by decide +kernel
theorem dX2_stepsApart_12 : decode cX2_stepsApart 12 = .ok (.invokestatic 51, 3) := by decide +kernel
theorem dX2_stepsApart_15 : decode cX2_stepsApart 15 = .ok (.ireturn, 1) := by decide +kernel
theorem dX2_compare_0 : decode cX2_compare 0 = .ok (.iload_n 2, 1) := by decide +kernel
theorem dX2_compare_1 : decode cX2_compare 1 = .ok (.aload_n 0, 1) := by decide +kernel
theorem dX2_compare_2 : decode cX2_compare 2 = .ok (.getfield 77, 3) := by decide +kernel
theorem dX2_compare_5 : decode cX2_compare 5 = .ok (.if_icmp .lt 19, 3) := by decide +kernel
theorem dX2_compare_8 : decode cX2_compare 8 = .ok (.iload_n 2, 1) := by decide +kernel
theorem dX2_compare_9 : decode cX2_compare 9 = .ok (.aload_n 0, 1) := by decide +kernel
theorem dX2_compare_10 : decode cX2_compare 10 = .ok (.getfield 77, 3) := by decide +kernel
theorem dX2_compare_13 : decode cX2_compare 13 = .ok (.if_icmp .ne 15, 3) := by decide +kernel
theorem dX2_compare_16 : decode cX2_compare 16 = .ok (.iload_n 3, 1) := by decide +kernel
theorem dX2_compare_17 : decode cX2_compare 17 = .ok (.aload_n 0, 1) := by decide +kernel
theorem dX2_compare_18 : decode cX2_compare 18 = .ok (.getfield 80, 3) := by decide +kernel
theorem dX2_compare_21 : decode cX2_compare 21 = .ok (.if_icmp .le 7, 3) := by decide +kernel
theorem dX2_compare_24 : decode cX2_compare 24 = .ok (.iconst 1, 1) := by decide +kernel
theorem dX2_compare_25 : decode cX2_compare 25 = .ok (.goto 4, 3) := by decide +kernel
theorem dX2_compare_28 : decode cX2_compare 28 = .ok (.iconst 0, 1) := by decide +kernel
theorem dX2_compare_29 : decode cX2_compare 29 = .ok (.istore 5, 2) := by decide +kernel
theorem dX2_compare_31 : decode cX2_compare 31 = .ok (.iload 5, 2) := by decide +kernel
theorem dX2_compare_33 : decode cX2_compare 33 = .ok (.ifCond .eq 12, 3) := by decide +kernel
theorem dX2_compare_36 : decode cX2_compare 36 = .ok (.iload 4, 2) := by decide +kernel
theorem dX2_compare_38 : decode cX2_compare 38 = .ok (.aload_n 0, 1) := by decide +kernel
theorem dX2_compare_39 : decode cX2_compare 39 = .ok (.getfield 71, 3) := by decide +kernel
theorem dX2_compare_42 : decode cX2_compare 42 = .ok (.if_icmp .ge 4, 3) := by decide +kernel
theorem dX2_compare_45 : decode cX2_compare 45 = .ok (.return_, 1) := by decide +kernel
theorem dX2_compare_46 : decode cX2_compare 46 = .ok (.aload_n 0, 1) := by decide +kernel
theorem dX2_compare_47 : decode cX2_compare 47 = .ok (.iload_n 1, 1) := by decide +kernel
theorem dX2_compare_48 : decode cX2_compare 48 = .ok (.putfield 74, 3) := by decide +kernel
theorem dX2_compare_51 : decode cX2_compare 51 = .ok (.aload_n 0, 1) := by decide +kernel
theorem dX2_compare_52 : decode cX2_compare 52 = .ok (.iload_n 2, 1) := by decide +kernel
theorem dX2_compare_53 : decode cX2_compare 53 = .ok (.putfield 77, 3) := by decide +kernel
theorem dX2_compare_56 : decode cX2_compare 56 = .ok (.aload_n 0, 1) := by decide +kernel
theorem dX2_compare_57 : decode cX2_compare 57 = .ok (.iload_n 3, 1) := by decide +kernel
theorem dX2_compare_58 : decode cX2_compare 58 = .ok (.putfield 80, 3) := by decide +kernel
theorem dX2_compare_61 : decode cX2_compare 61 = .ok (.iconst 0, 1) := by decide +kernel
theorem dX2_compare_62 : decode cX2_compare 62 = .ok (.istore 6, 2) := by decide +kernel
theorem dX2_compare_64 : decode cX2_compare 64 = .ok (.iload 6, 2) := by decide +kernel
theorem dX2_compare_66 : decode cX2_compare 66 = .ok (.iload_n 1, 1) := by decide +kernel
theorem dX2_compare_67 : decode cX2_compare 67 = .ok (.if_icmp .ge 23, 3) := by decide +kernel
theorem dX2_compare_70 : decode cX2_compare 70 = .ok (.aload_n 0, 1) := by decide +kernel
theorem dX2_compare_71 : decode cX2_compare 71 = .ok (.getfield 9, 3) := by decide +kernel
theorem dX2_compare_74 : decode cX2_compare 74 = .ok (.iload 6, 2) := by decide +kernel
theorem dX2_compare_76 : decode cX2_compare 76 = .ok (.aload_n 0, 1) := by decide +kernel
theorem dX2_compare_77 : decode cX2_compare 77 = .ok (.getfield 15, 3) := by decide +kernel
theorem dX2_compare_80 : decode cX2_compare 80 = .ok (.iload 6, 2) := by decide +kernel
theorem dX2_compare_82 : decode cX2_compare 82 = .ok (.iaload, 1) := by decide +kernel
theorem dX2_compare_83 : decode cX2_compare 83 = .ok (.iastore, 1) := by decide +kernel
theorem dX2_compare_84 : decode cX2_compare 84 = .ok (.iinc 6 1, 3) := by decide +kernel
theorem dX2_compare_87 : decode cX2_compare 87 = .ok (.goto (-23), 3) := by decide +kernel
theorem dX2_compare_90 : decode cX2_compare 90 = .ok (.return_, 1) := by decide +kernel
theorem dX3_init_0 : decode cX3_init 0 = .ok (.aload_n 0, 1) := by decide +kernel
theorem dX3_init_1 : decode cX3_init 1 = .ok (.invokespecial 3, 3) := by decide +kernel
theorem dX3_init_4 : decode cX3_init 4 = .ok (.aload_n 0, 1) := by decide +kernel
theorem dX3_init_5 : decode cX3_init 5 = .ok (.iconst 5, 1) := by decide +kernel
theorem dX3_init_6 : decode cX3_init 6 = .ok (.newarray .int, 2) := by decide +kernel
theorem dX3_init_8 : decode cX3_init 8 = .ok (.putfield 11, 3) := by decide +kernel
theorem dX3_init_11 : decode cX3_init 11 = .ok (.aload_n 0, 1) := by decide +kernel
theorem dX3_init_12 : decode cX3_init 12 = .ok (.iconst 5, 1) := by decide +kernel
theorem dX3_init_13 : decode cX3_init 13 = .ok (.newarray .int, 2) := by decide +kernel
theorem dX3_init_15 : decode cX3_init 15 = .ok (.putfield 15, 3) := by decide +kernel
theorem dX3_init_18 : decode cX3_init 18 = .ok (.aload_n 0, 1) := by decide +kernel
theorem dX3_init_19 : decode cX3_init 19 = .ok (.iconst 5, 1) := by decide +kernel
theorem dX3_init_20 : decode cX3_init 20 = .ok (.newarray .boolean, 2) := by decide +kernel
theorem dX3_init_22 : decode cX3_init 22 = .ok (.putfield 18, 3) := by decide +kernel
theorem dX3_init_25 : decode cX3_init 25 = .ok (.getstatic 22, 3) := by decide +kernel
theorem dX3_init_28 : decode cX3_init 28 = .ok (.iconst 0, 1) := by decide +kernel
theorem dX3_init_29 : decode cX3_init 29 = .ok (.aload_n 0, 1) := by decide +kernel
theorem dX3_init_30 : decode cX3_init 30 = .ok (.getfield 11, 3) := by decide +kernel
theorem dX3_init_33 : decode cX3_init 33 = .ok (.iconst 0, 1) := by decide +kernel
theorem dX3_init_34 : decode cX3_init 34 = .ok (.iconst 5, 1) := by decide +kernel
theorem dX3_init_35 : decode cX3_init 35 = .ok (.invokestatic 25, 3) := by decide +kernel
theorem dX3_init_38 : decode cX3_init 38 = .ok (.return_, 1) := by decide +kernel
theorem dX3_read_0 : decode cX3_read 0 = .ok (.aload_n 0, 1) := by decide +kernel
theorem dX3_read_1 : decode cX3_read 1 = .ok (.invokevirtual 31, 3) := by decide +kernel
theorem dX3_read_4 : decode cX3_read 4 = .ok (.aload_n 1, 1) := by decide +kernel
theorem dX3_read_5 : decode cX3_read 5 = .ok (.bipush 120, 2) := by decide +kernel
theorem dX3_read_7 : decode cX3_read 7 = .ok (.invokevirtual 34, 3) := by decide +kernel
theorem dX3_read_10 : decode cX3_read 10 = .ok (.iconst 0, 1) := by decide +kernel
theorem dX3_read_11 : decode cX3_read 11 = .ok (.istore_n 2, 1) := by decide +kernel
theorem dX3_read_12 : decode cX3_read 12 = .ok (.iload_n 2, 1) := by decide +kernel
theorem dX3_read_13 : decode cX3_read 13 = .ok (.iconst 5, 1) := by decide +kernel
theorem dX3_read_14 : decode cX3_read 14 = .ok (.if_icmp .gt 27, 3) := by decide +kernel
theorem dX3_read_17 : decode cX3_read 17 = .ok (.aload_n 1, 1) := by decide +kernel
theorem dX3_read_18 : decode cX3_read 18 = .ok (.getfield 40, 3) := by decide +kernel
theorem dX3_read_21 : decode cX3_read 21 = .ok (.iconst 1, 1) := by decide +kernel
theorem dX3_read_22 : decode cX3_read 22 = .ok (.if_icmp .eq 19, 3) := by decide +kernel
theorem dX3_read_25 : decode cX3_read 25 = .ok (.aload_n 0, 1) := by decide +kernel
theorem dX3_read_26 : decode cX3_read 26 = .ok (.aload_n 1, 1) := by decide +kernel
theorem dX3_read_27 : decode cX3_read 27 = .ok (.invokevirtual 44, 3) := by decide +kernel
theorem dX3_read_30 : decode cX3_read 30 = .ok (.ifCond .ne 5, 3) := by decide +kernel
theorem dX3_read_33 : decode cX3_read 33 = .ok (.iconst 0, 1) := by decide +kernel
theorem dX3_read_34 : decode cX3_read 34 = .ok (.ireturn, 1) := by decide +kernel
theorem dX3_read_35 : decode cX3_read 35 = .ok (.iinc 2 1, 3) := by decide +kernel
theorem dX3_read_38 : decode cX3_read 38 = .ok (.goto (-26), 3) := by decide +kernel
theorem dX3_read_41 : decode cX3_read 41 = .ok (.aload_n 0, 1) := by decide +kernel
theorem dX3_read_42 : decode cX3_read 42 = .ok (.getfield 15, 3) := by decide +kernel
theorem dX3_read_45 : decode cX3_read 45 = .ok (.iconst 0, 1) := by decide +kernel
theorem dX3_read_46 : decode cX3_read 46 = .ok (.aload_n 0, 1) := by decide +kernel
theorem dX3_read_47 : decode cX3_read 47 = .ok (.getfield 11, 3) := by decide +kernel
theorem dX3_read_50 : decode cX3_read 50 = .ok (.iconst 0, 1) := by decide +kernel
theorem dX3_read_51 : decode cX3_read 51 = .ok (.iconst 5, 1) := by decide +kernel
theorem dX3_read_52 : decode cX3_read 52 = .ok (.invokestatic 25, 3) := by decide +kernel
theorem dX3_read_55 : decode cX3_read 55 = .ok (.iconst 1, 1) := by decide +kernel
theorem dX3_read_56 : decode cX3_read 56 = .ok (.ireturn, 1) := by decide +kernel
theorem dX3_startAnew_0 : decode cX3_startAnew 0 = .ok (.getstatic 22, 3) := by decide +kernel
theorem dX3_startAnew_3 : decode cX3_startAnew 3 = .ok (.iconst 0, 1) := by decide +kernel
theorem dX3_startAnew_4 : decode cX3_startAnew 4 = .ok (.aload_n 0, 1) := by decide +kernel
theorem dX3_startAnew_5 : decode cX3_startAnew 5 = .ok (.getfield 15, 3) := by decide +kernel
theorem dX3_startAnew_8 : decode cX3_startAnew 8 = .ok (.iconst 0, 1) := by decide +kernel
theorem dX3_startAnew_9 : decode cX3_startAnew 9 = .ok (.iconst 5, 1) := by decide +kernel
theorem dX3_startAnew_10 : decode cX3_startAnew 10 = .ok (.invokestatic 25, 3) := by decide +kernel
theorem dX3_startAnew_13 : decode cX3_startAnew 13 = .ok (.iconst 0, 1) := by decide +kernel
theorem dX3_startAnew_14 : decode cX3_startAnew 14 = .ok (.istore_n 1, 1) := by decide +kernel
theorem dX3_startAnew_15 : decode cX3_startAnew 15 = .ok (.iload_n 1, 1) := by decide +kernel
theorem dX3_startAnew_16 : decode cX3_startAnew 16 = .ok (.iconst 5, 1) := by decide +kernel
theorem dX3_startAnew_17 : decode cX3_startAnew 17 = .ok (.if_icmp .ge 16, 3) := by decide +kernel
theorem dX3_startAnew_20 : decode cX3_startAnew 20 = .ok (.aload_n 0, 1) := by decide +kernel
theorem dX3_startAnew_21 : decode cX3_startAnew 21 = .ok (.getfield 18, 3) := by decide +kernel
theorem dX3_startAnew_24 : decode cX3_startAnew 24 = .ok (.iload_n 1, 1) := by decide +kernel
theorem dX3_startAnew_25 : decode cX3_startAnew 25 = .ok (.iconst 0, 1) := by decide +kernel
theorem dX3_startAnew_26 : decode cX3_startAnew 26 = .ok (.bastore, 1) := by decide +kernel
theorem dX3_startAnew_27 : decode cX3_startAnew 27 = .ok (.iinc 1 1, 3) := by decide +kernel
theorem dX3_startAnew_30 : decode cX3_startAnew 30 = .ok (.goto (-15), 3) := by decide +kernel
theorem dX3_startAnew_33 : decode cX3_startAnew 33 = .ok (.aload_n 0, 1) := by decide +kernel
theorem dX3_startAnew_34 : decode cX3_startAnew 34 = .ok (.iconst 0, 1) := by decide +kernel
theorem dX3_startAnew_35 : decode cX3_startAnew 35 = .ok (.putfield 48, 3) := by decide +kernel
theorem dX3_startAnew_38 : decode cX3_startAnew 38 = .ok (.return_, 1) := by decide +kernel
theorem dX3_readOne_0 : decode cX3_readOne 0 = .ok (.aload_n 1, 1) := by decide +kernel
theorem dX3_readOne_1 : decode cX3_readOne 1 = .ok (.invokestatic 51, 3) := by decide +kernel
theorem dX3_readOne_4 : decode cX3_readOne 4 = .ok (.istore_n 2, 1) := by decide +kernel
theorem dX3_readOne_5 : decode cX3_readOne 5 = .ok (.iload_n 2, 1) := by decide +kernel
theorem dX3_readOne_6 : decode cX3_readOne 6 = .ok (.iconst (-1), 1) := by decide +kernel
theorem dX3_readOne_7 : decode cX3_readOne 7 = .ok (.if_icmp .ne 9, 3) := by decide +kernel
theorem dX3_readOne_10 : decode cX3_readOne 10 = .ok (.aload_n 1, 1) := by decide +kernel
theorem dX3_readOne_11 : decode cX3_readOne 11 = .ok (.iconst 1, 1) := by decide +kernel
theorem dX3_readOne_12 : decode cX3_readOne 12 = .ok (.invokevirtual 55, 3) := by decide +kernel
theorem dX3_readOne_15 : decode cX3_readOne 15 = .ok (.ireturn, 1) := by decide +kernel
theorem dX3_readOne_16 : decode cX3_readOne 16 = .ok (.aload_n 0, 1) := by decide +kernel
theorem dX3_readOne_17 : decode cX3_readOne 17 = .ok (.getfield 18, 3) := by decide +kernel
theorem dX3_readOne_20 : decode cX3_readOne 20 = .ok (.iload_n 2, 1) := by decide +kernel
theorem dX3_readOne_21 : decode cX3_readOne 21 = .ok (.baload, 1) := by decide +kernel
theorem dX3_readOne_22 : decode cX3_readOne 22 = .ok (.ifCond .eq 9, 3) := by decide +kernel
theorem dX3_readOne_25 : decode cX3_readOne 25 = .ok (.aload_n 1, 1) := by decide +kernel
theorem dX3_readOne_26 : decode cX3_readOne 26 = .ok (.iconst 3, 1) := by decide +kernel
theorem dX3_readOne_27 : decode cX3_readOne 27 = .ok (.invokevirtual 55, 3) := by decide +kernel
theorem dX3_readOne_30 : decode cX3_readOne 30 = .ok (.ireturn, 1) := by decide +kernel
theorem dX3_readOne_31 : decode cX3_readOne 31 = .ok (.aload_n 1, 1) := by decide +kernel
theorem dX3_readOne_32 : decode cX3_readOne 32 = .ok (.getstatic 59, 3) := by decide +kernel
theorem dX3_readOne_35 : decode cX3_readOne 35 = .ok (.iload_n 2, 1) := by decide +kernel
theorem dX3_readOne_36 : decode cX3_readOne 36 = .ok (.iaload, 1) := by decide +kernel
theorem dX3_readOne_37 : decode cX3_readOne 37 = .ok (.getstatic 62, 3) := by decide +kernel
theorem dX3_readOne_40 : decode cX3_readOne 40 = .ok (.iload_n 2, 1) := by decide +kernel
theorem dX3_readOne_41 : decode cX3_readOne 41 = .ok (.iaload, 1) := by decide +kernel
theorem dX3_readOne_42 : decode cX3_readOne 42 = .ok (.invokevirtual 65, 3) := by decide +kernel
theorem dX3_readOne_45 : decode cX3_readOne 45 = .ok (.ifCond .ne 5, 3) := by decide +kernel
theorem dX3_readOne_48 : decode cX3_readOne 48 = .ok (.iconst 0, 1) := by decide +kernel
theorem dX3_readOne_49 : decode cX3_readOne 49 = .ok (.ireturn, 1) := by decide +kernel
theorem dX3_readOne_50 : decode cX3_readOne 50 = .ok (.aload_n 0, 1) := by decide +kernel
theorem dX3_readOne_51 : decode cX3_readOne 51 = .ok (.getfield 15, 3) := by decide +kernel
theorem dX3_readOne_54 : decode cX3_readOne 54 = .ok (.iload_n 2, 1) := by decide +kernel
theorem dX3_readOne_55 : decode cX3_readOne 55 = .ok (.aload_n 1, 1) := by decide +kernel
theorem dX3_readOne_56 : decode cX3_readOne 56 = .ok (.getfield 69, 3) := by decide +kernel
theorem dX3_readOne_59 : decode cX3_readOne 59 = .ok (.iastore, 1) := by decide +kernel
theorem dX3_readOne_60 : decode cX3_readOne 60 = .ok (.aload_n 0, 1) := by decide +kernel
theorem dX3_readOne_61 : decode cX3_readOne 61 = .ok (.getfield 18, 3) := by decide +kernel
theorem dX3_readOne_64 : decode cX3_readOne 64 = .ok (.iload_n 2, 1) := by decide +kernel
theorem dX3_readOne_65 : decode cX3_readOne 65 = .ok (.iconst 1, 1) := by decide +kernel
theorem dX3_readOne_66 : decode cX3_readOne 66 = .ok (.bastore, 1) := by decide +kernel
theorem dX3_readOne_67 : decode cX3_readOne 67 = .ok (.aload_n 0, 1) := by decide +kernel
theorem dX3_readOne_68 : decode cX3_readOne 68 = .ok (.dup, 1) := by decide +kernel
theorem dX3_readOne_69 : decode cX3_readOne 69 = .ok (.getfield 48, 3) := by decide +kernel
theorem dX3_readOne_72 : decode cX3_readOne 72 = .ok (.iconst 1, 1) := by decide +kernel
theorem dX3_readOne_73 : decode cX3_readOne 73 = .ok (.iadd, 1) := by decide +kernel
theorem dX3_readOne_74 : decode cX3_readOne 74 = .ok (.putfield 48, 3) := by decide +kernel
theorem dX3_readOne_77 : decode cX3_readOne 77 = .ok (.aload_n 1, 1) := by decide +kernel
theorem dX3_readOne_78 : decode cX3_readOne 78 = .ok (.invokevirtual 72, 3) := by decide +kernel
theorem dX3_readOne_81 : decode cX3_readOne 81 = .ok (.aload_n 1, 1) := by decide +kernel
theorem dX3_readOne_82 : decode cX3_readOne 82 = .ok (.invokevirtual 75, 3) := by decide +kernel
theorem dX3_readOne_85 : decode cX3_readOne 85 = .ok (.ireturn, 1) := by decide +kernel
theorem dX3_named_0 : decode cX3_named 0 = .ok (.aload_n 0, 1) := by decide +kernel
theorem dX3_named_1 : decode cX3_named 1 = .ok (.ldc 79, 2) := by decide +kernel
theorem dX3_named_3 : decode cX3_named 3 = .ok (.invokevirtual 81, 3) := by decide +kernel
theorem dX3_named_6 : decode cX3_named 6 = .ok (.ifCond .eq 5, 3) := by decide +kernel
theorem dX3_named_9 : decode cX3_named 9 = .ok (.iconst 0, 1) := by decide +kernel
theorem dX3_named_10 : decode cX3_named 10 = .ok (.ireturn, 1) := by decide +kernel
theorem dX3_named_11 : decode cX3_named 11 = .ok (.aload_n 0, 1) := by decide +kernel
theorem dX3_named_12 : decode cX3_named 12 = .ok (.ldc 85, 2) := by decide +kernel
theorem dX3_named_14 : decode cX3_named 14 = .ok (.invokevirtual 81, 3) := by decide +kernel
theorem dX3_named_17 : decode cX3_named 17 = .ok (.ifCond .eq 5, 3) := by decide +kernel
theorem dX3_named_20 : decode cX3_named 20 = .ok (.iconst 1, 1) := by decide +kernel
theorem dX3_named_21 : decode cX3_named 21 = .ok (.ireturn, 1) := by decide +kernel
theorem dX3_named_22 : decode cX3_named 22 = .ok (.aload_n 0, 1) := by decide +kernel
theorem dX3_named_23 : decode cX3_named 23 = .ok (.ldc 87, 2) := by decide +kernel
theorem dX3_named_25 : decode cX3_named 25 = .ok (.invokevirtual 81, 3) := by decide +kernel
theorem dX3_named_28 : decode cX3_named 28 = .ok (.ifCond .eq 5, 3) := by decide +kernel
theorem dX3_named_31 : decode cX3_named 31 = .ok (.iconst 2, 1) := by decide +kernel
theorem dX3_named_32 : decode cX3_named 32 = .ok (.ireturn, 1) := by decide +kernel
theorem dX3_named_33 : decode cX3_named 33 = .ok (.aload_n 0, 1) := by decide +kernel
theorem dX3_named_34 : decode cX3_named 34 = .ok (.ldc 89, 2) := by decide +kernel
theorem dX3_named_36 : decode cX3_named 36 = .ok (.invokevirtual 81, 3) := by decide +kernel
theorem dX3_named_39 : decode cX3_named 39 = .ok (.ifCond .eq 5, 3) := by decide +kernel
theorem dX3_named_42 : decode cX3_named 42 = .ok (.iconst 3, 1) := by decide +kernel
theorem dX3_named_43 : decode cX3_named 43 = .ok (.ireturn, 1) := by decide +kernel
theorem dX3_named_44 : decode cX3_named 44 = .ok (.aload_n 0, 1) := by decide +kernel
theorem dX3_named_45 : decode cX3_named 45 = .ok (.ldc 91, 2) := by decide +kernel
theorem dX3_named_47 : decode cX3_named 47 = .ok (.invokevirtual 81, 3) := by decide +kernel
theorem dX3_named_50 : decode cX3_named 50 = .ok (.ifCond .eq 7, 3) := by decide +kernel
theorem dX3_named_53 : decode cX3_named 53 = .ok (.iconst 4, 1) := by decide +kernel
theorem dX3_named_54 : decode cX3_named 54 = .ok (.goto 4, 3) := by decide +kernel
theorem dX3_named_57 : decode cX3_named 57 = .ok (.iconst (-1), 1) := by decide +kernel
theorem dX3_named_58 : decode cX3_named 58 = .ok (.ireturn, 1) := by decide +kernel
theorem dX4_init_0 : decode cX4_init 0 = .ok (.aload_n 0, 1) := by decide +kernel
theorem dX4_init_1 : decode cX4_init 1 = .ok (.invokespecial 3, 3) := by decide +kernel
theorem dX4_init_4 : decode cX4_init 4 = .ok (.aload_n 0, 1) := by decide +kernel
theorem dX4_init_5 : decode cX4_init 5 = .ok (.bipush 24, 2) := by decide +kernel
theorem dX4_init_7 : decode cX4_init 7 = .ok (.newarray .int, 2) := by decide +kernel
theorem dX4_init_9 : decode cX4_init 9 = .ok (.putfield 9, 3) := by decide +kernel
theorem dX4_init_12 : decode cX4_init 12 = .ok (.aload_n 0, 1) := by decide +kernel
theorem dX4_init_13 : decode cX4_init 13 = .ok (.bipush 24, 2) := by decide +kernel
theorem dX4_init_15 : decode cX4_init 15 = .ok (.newarray .int, 2) := by decide +kernel
theorem dX4_init_17 : decode cX4_init 17 = .ok (.putfield 15, 3) := by decide +kernel
theorem dX4_init_20 : decode cX4_init 20 = .ok (.aload_n 0, 1) := by decide +kernel
theorem dX4_init_21 : decode cX4_init 21 = .ok (.bipush 24, 2) := by decide +kernel
theorem dX4_init_23 : decode cX4_init 23 = .ok (.newarray .int, 2) := by decide +kernel
theorem dX4_init_25 : decode cX4_init 25 = .ok (.putfield 18, 3) := by decide +kernel
theorem dX4_init_28 : decode cX4_init 28 = .ok (.aload_n 0, 1) := by decide +kernel
theorem dX4_init_29 : decode cX4_init 29 = .ok (.bipush 24, 2) := by decide +kernel
theorem dX4_init_31 : decode cX4_init 31 = .ok (.newarray .int, 2) := by decide +kernel
theorem dX4_init_33 : decode cX4_init 33 = .ok (.putfield 21, 3) := by decide +kernel
theorem dX4_init_36 : decode cX4_init 36 = .ok (.aload_n 0, 1) := by decide +kernel
theorem dX4_init_37 : decode cX4_init 37 = .ok (.bipush 24, 2) := by decide +kernel
theorem dX4_init_39 : decode cX4_init 39 = .ok (.newarray .int, 2) := by decide +kernel
theorem dX4_init_41 : decode cX4_init 41 = .ok (.putfield 24, 3) := by decide +kernel
theorem dX4_init_44 : decode cX4_init 44 = .ok (.aload_n 0, 1) := by decide +kernel
theorem dX4_init_45 : decode cX4_init 45 = .ok (.bipush 24, 2) := by decide +kernel
theorem dX4_init_47 : decode cX4_init 47 = .ok (.newarray .int, 2) := by decide +kernel
theorem dX4_init_49 : decode cX4_init 49 = .ok (.putfield 27, 3) := by decide +kernel
theorem dX4_init_52 : decode cX4_init 52 = .ok (.aload_n 0, 1) := by decide +kernel
theorem dX4_init_53 : decode cX4_init 53 = .ok (.bipush 24, 2) := by decide +kernel
theorem dX4_init_55 : decode cX4_init 55 = .ok (.newarray .int, 2) := by decide +kernel
theorem dX4_init_57 : decode cX4_init 57 = .ok (.putfield 30, 3) := by decide +kernel
theorem dX4_init_60 : decode cX4_init 60 = .ok (.aload_n 0, 1) := by decide +kernel
theorem dX4_init_61 : decode cX4_init 61 = .ok (.bipush 24, 2) := by decide +kernel
theorem dX4_init_63 : decode cX4_init 63 = .ok (.newarray .int, 2) := by decide +kernel
theorem dX4_init_65 : decode cX4_init 65 = .ok (.putfield 33, 3) := by decide +kernel
theorem dX4_init_68 : decode cX4_init 68 = .ok (.aload_n 0, 1) := by decide +kernel
theorem dX4_init_69 : decode cX4_init 69 = .ok (.bipush 24, 2) := by decide +kernel
theorem dX4_init_71 : decode cX4_init 71 = .ok (.newarray .int, 2) := by decide +kernel
theorem dX4_init_73 : decode cX4_init 73 = .ok (.putfield 36, 3) := by decide +kernel
theorem dX4_init_76 : decode cX4_init 76 = .ok (.aload_n 0, 1) := by decide +kernel
theorem dX4_init_77 : decode cX4_init 77 = .ok (.bipush 12, 2) := by decide +kernel
theorem dX4_init_79 : decode cX4_init 79 = .ok (.newarray .int, 2) := by decide +kernel
theorem dX4_init_81 : decode cX4_init 81 = .ok (.putfield 39, 3) := by decide +kernel
theorem dX4_init_84 : decode cX4_init 84 = .ok (.aload_n 0, 1) := by decide +kernel
theorem dX4_init_85 : decode cX4_init 85 = .ok (.bipush 24, 2) := by decide +kernel
theorem dX4_init_87 : decode cX4_init 87 = .ok (.newarray .int, 2) := by decide +kernel
theorem dX4_init_89 : decode cX4_init 89 = .ok (.putfield 42, 3) := by decide +kernel
theorem dX4_init_92 : decode cX4_init 92 = .ok (.aload_n 0, 1) := by decide +kernel
theorem dX4_init_93 : decode cX4_init 93 = .ok (.bipush 24, 2) := by decide +kernel
theorem dX4_init_95 : decode cX4_init 95 = .ok (.newarray .int, 2) := by decide +kernel
theorem dX4_init_97 : decode cX4_init 97 = .ok (.putfield 45, 3) := by decide +kernel
theorem dX4_init_100 : decode cX4_init 100 = .ok (.aload_n 0, 1) := by decide +kernel
theorem dX4_init_101 : decode cX4_init 101 = .ok (.sipush 240, 3) := by decide +kernel
theorem dX4_init_104 : decode cX4_init 104 = .ok (.newarray .byte, 2) := by decide +kernel
theorem dX4_init_106 : decode cX4_init 106 = .ok (.putfield 48, 3) := by decide +kernel
theorem dX4_init_109 : decode cX4_init 109 = .ok (.aload_n 0, 1) := by decide +kernel
theorem dX4_init_110 : decode cX4_init 110 = .ok (.getfield 36, 3) := by decide +kernel
theorem dX4_init_113 : decode cX4_init 113 = .ok (.iconst (-1), 1) := by decide +kernel
theorem dX4_init_114 : decode cX4_init 114 = .ok (.invokestatic 52, 3) := by decide +kernel
theorem dX4_init_117 : decode cX4_init 117 = .ok (.aload_n 0, 1) := by decide +kernel
theorem dX4_init_118 : decode cX4_init 118 = .ok (.getfield 39, 3) := by decide +kernel
theorem dX4_init_121 : decode cX4_init 121 = .ok (.iconst (-1), 1) := by decide +kernel
theorem dX4_init_122 : decode cX4_init 122 = .ok (.invokestatic 52, 3) := by decide +kernel
theorem dX4_init_125 : decode cX4_init 125 = .ok (.return_, 1) := by decide +kernel
theorem dX4_has_0 : decode cX4_has 0 = .ok (.iload_n 1, 1) := by decide +kernel
theorem dX4_has_1 : decode cX4_has 1 = .ok (.ifCond .lt 15, 3) := by decide +kernel
theorem dX4_has_4 : decode cX4_has 4 = .ok (.iload_n 1, 1) := by decide +kernel
theorem dX4_has_5 : decode cX4_has 5 = .ok (.aload_n 0, 1) := by decide +kernel
theorem dX4_has_6 : decode cX4_has 6 = .ok (.getfield 58, 3) := by decide +kernel
theorem dX4_has_9 : decode cX4_has 9 = .ok (.if_icmp .ge 7, 3) := by decide +kernel
theorem dX4_has_12 : decode cX4_has 12 = .ok (.iconst 1, 1) := by decide +kernel
theorem dX4_has_13 : decode cX4_has 13 = .ok (.goto 4, 3) := by decide +kernel
theorem dX4_has_16 : decode cX4_has 16 = .ok (.iconst 0, 1) := by decide +kernel
theorem dX4_has_17 : decode cX4_has 17 = .ok (.ireturn, 1) := by decide +kernel
theorem dX4_add_0 : decode cX4_add 0 = .ok (.aload_n 0, 1) := by decide +kernel
theorem dX4_add_1 : decode cX4_add 1 = .ok (.getfield 58, 3) := by decide +kernel
theorem dX4_add_4 : decode cX4_add 4 = .ok (.istore 6, 2) := by decide +kernel
theorem dX4_add_6 : decode cX4_add 6 = .ok (.aload_n 0, 1) := by decide +kernel
theorem dX4_add_7 : decode cX4_add 7 = .ok (.getfield 9, 3) := by decide +kernel
theorem dX4_add_10 : decode cX4_add 10 = .ok (.iload 6, 2) := by decide +kernel
theorem dX4_add_12 : decode cX4_add 12 = .ok (.iload_n 1, 1) := by decide +kernel
theorem dX4_add_13 : decode cX4_add 13 = .ok (.iastore, 1) := by decide +kernel
theorem dX4_add_14 : decode cX4_add 14 = .ok (.aload_n 0, 1) := by decide +kernel
theorem dX4_add_15 : decode cX4_add 15 = .ok (.getfield 15, 3) := by decide +kernel
theorem dX4_add_18 : decode cX4_add 18 = .ok (.iload 6, 2) := by decide +kernel
theorem dX4_add_20 : decode cX4_add 20 = .ok (.iload_n 2, 1) := by decide +kernel
theorem dX4_add_21 : decode cX4_add 21 = .ok (.iastore, 1) := by decide +kernel
theorem dX4_add_22 : decode cX4_add 22 = .ok (.aload_n 0, 1) := by decide +kernel
theorem dX4_add_23 : decode cX4_add 23 = .ok (.getfield 18, 3) := by decide +kernel
theorem dX4_add_26 : decode cX4_add 26 = .ok (.iload 6, 2) := by decide +kernel
theorem dX4_add_28 : decode cX4_add 28 = .ok (.iload_n 3, 1) := by decide +kernel
theorem dX4_add_29 : decode cX4_add 29 = .ok (.iastore, 1) := by decide +kernel
theorem dX4_add_30 : decode cX4_add 30 = .ok (.aload_n 0, 1) := by decide +kernel
theorem dX4_add_31 : decode cX4_add 31 = .ok (.getfield 21, 3) := by decide +kernel
theorem dX4_add_34 : decode cX4_add 34 = .ok (.iload 6, 2) := by decide +kernel
theorem dX4_add_36 : decode cX4_add 36 = .ok (.iload 4, 2) := by decide +kernel
theorem dX4_add_38 : decode cX4_add 38 = .ok (.iastore, 1) := by decide +kernel
theorem dX4_add_39 : decode cX4_add 39 = .ok (.aload_n 0, 1) := by decide +kernel
theorem dX4_add_40 : decode cX4_add 40 = .ok (.getfield 24, 3) := by decide +kernel
theorem dX4_add_43 : decode cX4_add 43 = .ok (.iload 6, 2) := by decide +kernel
theorem dX4_add_45 : decode cX4_add 45 = .ok (.iload 5, 2) := by decide +kernel
theorem dX4_add_47 : decode cX4_add 47 = .ok (.iastore, 1) := by decide +kernel
theorem dX4_add_48 : decode cX4_add 48 = .ok (.aload_n 0, 1) := by decide +kernel
theorem dX4_add_49 : decode cX4_add 49 = .ok (.dup, 1) := by decide +kernel
theorem dX4_add_50 : decode cX4_add 50 = .ok (.getfield 58, 3) := by decide +kernel
theorem dX4_add_53 : decode cX4_add 53 = .ok (.iconst 1, 1) := by decide +kernel
theorem dX4_add_54 : decode cX4_add 54 = .ok (.iadd, 1) := by decide +kernel
theorem dX4_add_55 : decode cX4_add 55 = .ok (.putfield 58, 3) := by decide +kernel
theorem dX4_add_58 : decode cX4_add 58 = .ok (.iload 6, 2) := by decide +kernel
theorem dX4_add_60 : decode cX4_add 60 = .ok (.ireturn, 1) := by decide +kernel
theorem dX4_takeVote_0 : decode cX4_takeVote 0 = .ok (.iload_n 1, 1) := by decide +kernel
theorem dX4_takeVote_1 : decode cX4_takeVote 1 = .ok (.bipush 10, 2) := by decide +kernel
theorem dX4_takeVote_3 : decode cX4_takeVote 3 = .ok (.imul, 1) := by decide +kernel
theorem dX4_takeVote_4 : decode cX4_takeVote 4 = .ok (.aload_n 0, 1) := by decide +kernel
theorem dX4_takeVote_5 : decode cX4_takeVote 5 = .ok (.getfield 45, 3) := by decide +kernel
theorem dX4_takeVote_8 : decode cX4_takeVote 8 = .ok (.iload_n 1, 1) := by decide +kernel
theorem dX4_takeVote_9 : decode cX4_takeVote 9 = .ok (.iaload, 1) := by decide +kernel
theorem dX4_takeVote_10 : decode cX4_takeVote 10 = .ok (.iadd, 1) := by decide +kernel
theorem dX4_takeVote_11 : decode cX4_takeVote 11 = .ok (.istore_n 3, 1) := by decide +kernel
theorem dX4_takeVote_12 : decode cX4_takeVote 12 = .ok (.aload_n 0, 1) := by decide +kernel
theorem dX4_takeVote_13 : decode cX4_takeVote 13 = .ok (.getfield 42, 3) := by decide +kernel
theorem dX4_takeVote_16 : decode cX4_takeVote 16 = .ok (.iload_n 1, 1) := by decide +kernel
theorem dX4_takeVote_17 : decode cX4_takeVote 17 = .ok (.dup2, 1) := by decide +kernel
theorem dX4_takeVote_18 : decode cX4_takeVote 18 = .ok (.iaload, 1) := by decide +kernel
theorem dX4_takeVote_19 : decode cX4_takeVote 19 = .ok (.iload_n 2, 1) := by decide +kernel
theorem dX4_takeVote_20 : decode cX4_takeVote 20 = .ok (.aload_n 0, 1) := by decide +kernel
theorem dX4_takeVote_21 : decode cX4_takeVote 21 = .ok (.getfield 48, 3) := by decide +kernel
theorem dX4_takeVote_24 : decode cX4_takeVote 24 = .ok (.iload_n 3, 1) := by decide +kernel
theorem dX4_takeVote_25 : decode cX4_takeVote 25 = .ok (.baload, 1) := by decide +kernel
theorem dX4_takeVote_26 : decode cX4_takeVote 26 = .ok (.isub, 1) := by decide +kernel
theorem dX4_takeVote_27 : decode cX4_takeVote 27 = .ok (.iadd, 1) := by decide +kernel
theorem dX4_takeVote_28 : decode cX4_takeVote 28 = .ok (.iastore, 1) := by decide +kernel
theorem dX4_takeVote_29 : decode cX4_takeVote 29 = .ok (.aload_n 0, 1) := by decide +kernel
theorem dX4_takeVote_30 : decode cX4_takeVote 30 = .ok (.getfield 48, 3) := by decide +kernel
theorem dX4_takeVote_33 : decode cX4_takeVote 33 = .ok (.iload_n 3, 1) := by decide +kernel
theorem dX4_takeVote_34 : decode cX4_takeVote 34 = .ok (.iload_n 2, 1) := by decide +kernel
theorem dX4_takeVote_35 : decode cX4_takeVote 35 = .ok (.i2b, 1) := by decide +kernel
theorem dX4_takeVote_36 : decode cX4_takeVote 36 = .ok (.bastore, 1) := by decide +kernel
theorem dX4_takeVote_37 : decode cX4_takeVote 37 = .ok (.aload_n 0, 1) := by decide +kernel
theorem dX4_takeVote_38 : decode cX4_takeVote 38 = .ok (.getfield 45, 3) := by decide +kernel
theorem dX4_takeVote_41 : decode cX4_takeVote 41 = .ok (.iload_n 1, 1) := by decide +kernel
theorem dX4_takeVote_42 : decode cX4_takeVote 42 = .ok (.aload_n 0, 1) := by decide +kernel
theorem dX4_takeVote_43 : decode cX4_takeVote 43 = .ok (.getfield 45, 3) := by decide +kernel
theorem dX4_takeVote_46 : decode cX4_takeVote 46 = .ok (.iload_n 1, 1) := by decide +kernel
theorem dX4_takeVote_47 : decode cX4_takeVote 47 = .ok (.iaload, 1) := by decide +kernel
theorem dX4_takeVote_48 : decode cX4_takeVote 48 = .ok (.iconst 1, 1) := by decide +kernel
theorem dX4_takeVote_49 : decode cX4_takeVote 49 = .ok (.iadd, 1) := by decide +kernel
theorem dX4_takeVote_50 : decode cX4_takeVote 50 = .ok (.bipush 10, 2) := by decide +kernel
theorem dX4_takeVote_52 : decode cX4_takeVote 52 = .ok (.if_icmp .ge 14, 3) := by decide +kernel
theorem dX4_takeVote_55 : decode cX4_takeVote 55 = .ok (.aload_n 0, 1) := by decide +kernel
theorem dX4_takeVote_56 : decode cX4_takeVote 56 = .ok (.getfield 45, 3) := by decide +kernel
theorem dX4_takeVote_59 : decode cX4_takeVote 59 = .ok (.iload_n 1, 1) := by decide +kernel
theorem dX4_takeVote_60 : decode cX4_takeVote 60 = .ok (.iaload, 1) := by decide +kernel
theorem dX4_takeVote_61 : decode cX4_takeVote 61 = .ok (.iconst 1, 1) := by decide +kernel
theorem dX4_takeVote_62 : decode cX4_takeVote 62 = .ok (.iadd, 1) := by decide +kernel
theorem dX4_takeVote_63 : decode cX4_takeVote 63 = .ok (.goto 4, 3) := by decide +kernel
theorem dX4_takeVote_66 : decode cX4_takeVote 66 = .ok (.iconst 0, 1) := by decide +kernel
theorem dX4_takeVote_67 : decode cX4_takeVote 67 = .ok (.iastore, 1) := by decide +kernel
theorem dX4_takeVote_68 : decode cX4_takeVote 68 = .ok (.return_, 1) := by decide +kernel
theorem dX4_heat_0 : decode cX4_heat 0 = .ok (.aload_n 0, 1) := by decide +kernel
theorem dX4_heat_1 : decode cX4_heat 1 = .ok (.getfield 42, 3) := by decide +kernel
theorem dX4_heat_4 : decode cX4_heat 4 = .ok (.iload_n 1, 1) := by decide +kernel
theorem dX4_heat_5 : decode cX4_heat 5 = .ok (.iaload, 1) := by decide +kernel
theorem dX4_heat_6 : decode cX4_heat 6 = .ok (.bipush 15, 2) := by decide +kernel
theorem dX4_heat_8 : decode cX4_heat 8 = .ok (.aload_n 0, 1) := by decide +kernel
theorem dX4_heat_9 : decode cX4_heat 9 = .ok (.getfield 27, 3) := by decide +kernel
theorem dX4_heat_12 : decode cX4_heat 12 = .ok (.iload_n 1, 1) := by decide +kernel
theorem dX4_heat_13 : decode cX4_heat 13 = .ok (.iaload, 1) := by decide +kernel
theorem dX4_heat_14 : decode cX4_heat 14 = .ok (.imul, 1) := by decide +kernel
theorem dX4_heat_15 : decode cX4_heat 15 = .ok (.iadd, 1) := by decide +kernel
theorem dX4_heat_16 : decode cX4_heat 16 = .ok (.ireturn, 1) := by decide +kernel
theorem dX4_allAsksOpen_0 : decode cX4_allAsksOpen 0 = .ok (.iconst 0, 1) := by decide +kernel
theorem dX4_allAsksOpen_1 : decode cX4_allAsksOpen 1 = .ok (.istore_n 1, 1) := by decide +kernel
theorem dX4_allAsksOpen_2 : decode cX4_allAsksOpen 2 = .ok (.iconst 0, 1) := by decide +kernel
theorem dX4_allAsksOpen_3 : decode cX4_allAsksOpen 3 = .ok (.istore_n 2, 1) := by decide +kernel
theorem dX4_allAsksOpen_4 : decode cX4_allAsksOpen 4 = .ok (.iload_n 2, 1) := by decide +kernel
theorem dX4_allAsksOpen_5 : decode cX4_allAsksOpen 5 = .ok (.aload_n 0, 1) := by decide +kernel
theorem dX4_allAsksOpen_6 : decode cX4_allAsksOpen 6 = .ok (.getfield 58, 3) := by decide +kernel
theorem dX4_allAsksOpen_9 : decode cX4_allAsksOpen 9 = .ok (.if_icmp .ge 18, 3) := by decide +kernel
theorem dX4_allAsksOpen_12 : decode cX4_allAsksOpen 12 = .ok (.iload_n 1, 1) := by decide +kernel
theorem dX4_allAsksOpen_13 : decode cX4_allAsksOpen 13 = .ok (.aload_n 0, 1) := by decide +kernel
theorem dX4_allAsksOpen_14 : decode cX4_allAsksOpen 14 = .ok (.getfield 27, 3) := by decide +kernel
theorem dX4_allAsksOpen_17 : decode cX4_allAsksOpen 17 = .ok (.iload_n 2, 1) := by decide +kernel
theorem dX4_allAsksOpen_18 : decode cX4_allAsksOpen 18 = .ok (.iaload, 1) := by decide +kernel
theorem dX4_allAsksOpen_19 : decode cX4_allAsksOpen 19 = .ok (.iadd, 1) := by decide +kernel
theorem dX4_allAsksOpen_20 : decode cX4_allAsksOpen 20 = .ok (.istore_n 1, 1) := by decide +kernel
theorem dX4_allAsksOpen_21 : decode cX4_allAsksOpen 21 = .ok (.iinc 2 1, 3) := by decide +kernel
theorem dX4_allAsksOpen_24 : decode cX4_allAsksOpen 24 = .ok (.goto (-20), 3) := by decide +kernel
theorem dX4_allAsksOpen_27 : decode cX4_allAsksOpen 27 = .ok (.iload_n 1, 1) := by decide +kernel
theorem dX4_allAsksOpen_28 : decode cX4_allAsksOpen 28 = .ok (.ireturn, 1) := by decide +kernel
theorem dX4_begin_0 : decode cX4_begin 0 = .ok (.aload_n 0, 1) := by decide +kernel
theorem dX4_begin_1 : decode cX4_begin 1 = .ok (.getfield 33, 3) := by decide +kernel
theorem dX4_begin_4 : decode cX4_begin 4 = .ok (.iload_n 1, 1) := by decide +kernel
theorem dX4_begin_5 : decode cX4_begin 5 = .ok (.dup2, 1) := by decide +kernel
theorem dX4_begin_6 : decode cX4_begin 6 = .ok (.iaload, 1) := by decide +kernel
theorem dX4_begin_7 : decode cX4_begin 7 = .ok (.iconst 1, 1) := by decide +kernel
theorem dX4_begin_8 : decode cX4_begin 8 = .ok (.iadd, 1) := by decide +kernel
theorem dX4_begin_9 : decode cX4_begin 9 = .ok (.iastore, 1) := by decide +kernel
theorem dX4_begin_10 : decode cX4_begin 10 = .ok (.aload_n 0, 1) := by decide +kernel
theorem dX4_begin_11 : decode cX4_begin 11 = .ok (.getfield 36, 3) := by decide +kernel
theorem dX4_begin_14 : decode cX4_begin 14 = .ok (.iload_n 1, 1) := by decide +kernel
theorem dX4_begin_15 : decode cX4_begin 15 = .ok (.iload_n 2, 1) := by decide +kernel
theorem dX4_begin_16 : decode cX4_begin 16 = .ok (.iastore, 1) := by decide +kernel
theorem dX4_begin_17 : decode cX4_begin 17 = .ok (.aload_n 0, 1) := by decide +kernel
theorem dX4_begin_18 : decode cX4_begin 18 = .ok (.getfield 39, 3) := by decide +kernel
theorem dX4_begin_21 : decode cX4_begin 21 = .ok (.aload_n 0, 1) := by decide +kernel
theorem dX4_begin_22 : decode cX4_begin 22 = .ok (.getfield 15, 3) := by decide +kernel
theorem dX4_begin_25 : decode cX4_begin 25 = .ok (.iload_n 1, 1) := by decide +kernel
theorem dX4_begin_26 : decode cX4_begin 26 = .ok (.iaload, 1) := by decide +kernel
theorem dX4_begin_27 : decode cX4_begin 27 = .ok (.iload_n 2, 1) := by decide +kernel
theorem dX4_begin_28 : decode cX4_begin 28 = .ok (.iastore, 1) := by decide +kernel
theorem dX4_begin_29 : decode cX4_begin 29 = .ok (.aload_n 0, 1) := by decide +kernel
theorem dX4_begin_30 : decode cX4_begin 30 = .ok (.getfield 27, 3) := by decide +kernel
theorem dX4_begin_33 : decode cX4_begin 33 = .ok (.iload_n 1, 1) := by decide +kernel
theorem dX4_begin_34 : decode cX4_begin 34 = .ok (.iaload, 1) := by decide +kernel
theorem dX4_begin_35 : decode cX4_begin 35 = .ok (.ifCond .le 23, 3) := by decide +kernel
theorem dX4_begin_38 : decode cX4_begin 38 = .ok (.aload_n 0, 1) := by decide +kernel
theorem dX4_begin_39 : decode cX4_begin 39 = .ok (.getfield 27, 3) := by decide +kernel
theorem dX4_begin_42 : decode cX4_begin 42 = .ok (.iload_n 1, 1) := by decide +kernel
theorem dX4_begin_43 : decode cX4_begin 43 = .ok (.dup2, 1) := by decide +kernel
theorem dX4_begin_44 : decode cX4_begin 44 = .ok (.iaload, 1) := by decide +kernel
theorem dX4_begin_45 : decode cX4_begin 45 = .ok (.iconst 1, 1) := by decide +kernel
theorem dX4_begin_46 : decode cX4_begin 46 = .ok (.isub, 1) := by decide +kernel
theorem dX4_begin_47 : decode cX4_begin 47 = .ok (.iastore, 1) := by decide +kernel
theorem dX4_begin_48 : decode cX4_begin 48 = .ok (.aload_n 0, 1) := by decide +kernel
theorem dX4_begin_49 : decode cX4_begin 49 = .ok (.getfield 30, 3) := by decide +kernel
theorem dX4_begin_52 : decode cX4_begin 52 = .ok (.iload_n 1, 1) := by decide +kernel
theorem dX4_begin_53 : decode cX4_begin 53 = .ok (.dup2, 1) := by decide +kernel
theorem dX4_begin_54 : decode cX4_begin 54 = .ok (.iaload, 1) := by decide +kernel
theorem dX4_begin_55 : decode cX4_begin 55 = .ok (.iconst 1, 1) := by decide +kernel
theorem dX4_begin_56 : decode cX4_begin 56 = .ok (.iadd, 1) := by decide +kernel
theorem dX4_begin_57 : decode cX4_begin 57 = .ok (.iastore, 1) := by decide +kernel
theorem dX4_begin_58 : decode cX4_begin 58 = .ok (.return_, 1) := by decide +kernel
theorem dX5_init_0 : decode cX5_init 0 = .ok (.aload_n 0, 1) := by decide +kernel
theorem dX5_init_1 : decode cX5_init 1 = .ok (.invokespecial 1, 3) := by decide +kernel
theorem dX5_init_4 : decode cX5_init 4 = .ok (.aload_n 0, 1) := by decide +kernel
theorem dX5_init_5 : decode cX5_init 5 = .ok (.sipush 260, 3) := by decide +kernel
theorem dX5_init_8 : decode cX5_init 8 = .ok (.newarray .byte, 2) := by decide +kernel
theorem dX5_init_10 : decode cX5_init 10 = .ok (.putfield 9, 3) := by decide +kernel
theorem dX5_init_13 : decode cX5_init 13 = .ok (.return_, 1) := by decide +kernel
theorem dX5_hasRoomForFive_0 : decode cX5_hasRoomForFive 0 = .ok (.aload_n 0, 1) := by decide +kernel
theorem dX5_hasRoomForFive_1 : decode cX5_hasRoomForFive 1 = .ok (.getfield 13, 3) := by decide +kernel
theorem dX5_hasRoomForFive_4 : decode cX5_hasRoomForFive 4 = .ok (.sipush 240, 3) := by decide +kernel
theorem dX5_hasRoomForFive_7 : decode cX5_hasRoomForFive 7 = .ok (.if_icmp .gt 7, 3) := by decide +kernel
theorem dX5_hasRoomForFive_10 : decode cX5_hasRoomForFive 10 = .ok (.iconst 1, 1) := by decide +kernel
theorem dX5_hasRoomForFive_11 : decode cX5_hasRoomForFive 11 = .ok (.goto 4, 3) := by decide +kernel
theorem dX5_hasRoomForFive_14 : decode cX5_hasRoomForFive 14 = .ok (.iconst 0, 1) := by decide +kernel
theorem dX5_hasRoomForFive_15 : decode cX5_hasRoomForFive 15 = .ok (.ireturn, 1) := by decide +kernel
theorem dX5_append_0 : decode cX5_append 0 = .ok (.bipush 24, 2) := by decide +kernel
theorem dX5_append_2 : decode cX5_append 2 = .ok (.istore_n 2, 1) := by decide +kernel
theorem dX5_append_3 : decode cX5_append 3 = .ok (.iload_n 2, 1) := by decide +kernel
theorem dX5_append_4 : decode cX5_append 4 = .ok (.ifCond .lt 42, 3) := by decide +kernel
theorem dX5_append_7 : decode cX5_append 7 = .ok (.aload_n 0, 1) := by decide +kernel
theorem dX5_append_8 : decode cX5_append 8 = .ok (.getfield 13, 3) := by decide +kernel
theorem dX5_append_11 : decode cX5_append 11 = .ok (.sipush 260, 3) := by decide +kernel
theorem dX5_append_14 : decode cX5_append 14 = .ok (.if_icmp .ge 32, 3) := by decide +kernel
theorem dX5_append_17 : decode cX5_append 17 = .ok (.aload_n 0, 1) := by decide +kernel
theorem dX5_append_18 : decode cX5_append 18 = .ok (.getfield 9, 3) := by decide +kernel
theorem dX5_append_21 : decode cX5_append 21 = .ok (.aload_n 0, 1) := by decide +kernel
theorem dX5_append_22 : decode cX5_append 22 = .ok (.getfield 13, 3) := by decide +kernel
theorem dX5_append_25 : decode cX5_append 25 = .ok (.iload_n 1, 1) := by decide +kernel
