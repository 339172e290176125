theorem dX5_append_26 : decode cX5_append 26 = .ok (.iload_n 2, 1) := by decide +kernel
theorem dX5_append_27 : decode cX5_append 27 = .ok (.iushr, 1) := by decide +kernel
theorem dX5_append_28 : decode cX5_append 28 = .ok (.i2b, 1) := by decide +kernel
theorem dX5_append_29 : decode cX5_append 29 = .ok (.bastore, 1) := by decide +kernel
theorem dX5_append_30 : decode cX5_append 30 = .ok (.aload_n 0, 1) := by decide +kernel
theorem dX5_append_31 : decode cX5_append 31 = .ok (.dup, 1) := by decide +kernel
theorem dX5_append_32 : decode cX5_append 32 = .ok (.getfield 13, 3) := by decide +kernel
theorem dX5_append_35 : decode cX5_append 35 = .ok (.iconst 1, 1) := by decide +kernel
theorem dX5_append_36 : decode cX5_append 36 = .ok (.iadd, 1) := by decide +kernel
theorem dX5_append_37 : decode cX5_append 37 = .ok (.putfield 13, 3) := by decide +kernel
theorem dX5_append_40 : decode cX5_append 40 = .ok (.iinc 2 (-8), 3) := by decide +kernel
theorem dX5_append_43 : decode cX5_append 43 = .ok (.goto (-40), 3) := by decide +kernel
theorem dX5_append_46 : decode cX5_append 46 = .ok (.return_, 1) := by decide +kernel
theorem dX5_start_0 : decode cX5_start 0 = .ok (.aload_n 0, 1) := by decide +kernel
theorem dX5_start_1 : decode cX5_start 1 = .ok (.iload_n 1, 1) := by decide +kernel
theorem dX5_start_2 : decode cX5_start 2 = .ok (.putfield 17, 3) := by decide +kernel
theorem dX5_start_5 : decode cX5_start 5 = .ok (.aload_n 0, 1) := by decide +kernel
theorem dX5_start_6 : decode cX5_start 6 = .ok (.iconst 0, 1) := by decide +kernel
theorem dX5_start_7 : decode cX5_start 7 = .ok (.putfield 20, 3) := by decide +kernel
theorem dX5_start_10 : decode cX5_start 10 = .ok (.aload_n 0, 1) := by decide +kernel
theorem dX5_start_11 : decode cX5_start 11 = .ok (.iconst 0, 1) := by decide +kernel
theorem dX5_start_12 : decode cX5_start 12 = .ok (.putfield 23, 3) := by decide +kernel
theorem dX5_start_15 : decode cX5_start 15 = .ok (.aload_n 0, 1) := by decide +kernel
theorem dX5_start_16 : decode cX5_start 16 = .ok (.iconst 0, 1) := by decide +kernel
theorem dX5_start_17 : decode cX5_start 17 = .ok (.putfield 26, 3) := by decide +kernel
theorem dX5_start_20 : decode cX5_start 20 = .ok (.aload_n 0, 1) := by decide +kernel
theorem dX5_start_21 : decode cX5_start 21 = .ok (.invokevirtual 29, 3) := by decide +kernel
theorem dX5_start_24 : decode cX5_start 24 = .ok (.return_, 1) := by decide +kernel
theorem dX5_step_0 : decode cX5_step 0 = .ok (.aload_n 0, 1) := by decide +kernel
theorem dX5_step_1 : decode cX5_step 1 = .ok (.getfield 26, 3) := by decide +kernel
theorem dX5_step_4 : decode cX5_step 4 = .ok (.istore_n 1, 1) := by decide +kernel
theorem dX5_step_5 : decode cX5_step 5 = .ok (.iload_n 1, 1) := by decide +kernel
theorem dX5_step_6 : decode cX5_step 6 = .ok (.aload_n 0, 1) := by decide +kernel
theorem dX5_step_7 : decode cX5_step 7 = .ok (.getfield 13, 3) := by decide +kernel
theorem dX5_step_10 : decode cX5_step 10 = .ok (.if_icmp .ge 21, 3) := by decide +kernel
theorem dX5_step_13 : decode cX5_step 13 = .ok (.aload_n 0, 1) := by decide +kernel
theorem dX5_step_14 : decode cX5_step 14 = .ok (.getfield 9, 3) := by decide +kernel
theorem dX5_step_17 : decode cX5_step 17 = .ok (.iload_n 1, 1) := by decide +kernel
theorem dX5_step_18 : decode cX5_step 18 = .ok (.baload, 1) := by decide +kernel
theorem dX5_step_19 : decode cX5_step 19 = .ok (.invokestatic 32, 3) := by decide +kernel
theorem dX5_step_22 : decode cX5_step 22 = .ok (.ifCond .eq 9, 3) := by decide +kernel
theorem dX5_step_25 : decode cX5_step 25 = .ok (.iinc 1 1, 3) := by decide +kernel
theorem dX5_step_28 : decode cX5_step 28 = .ok (.goto (-23), 3) := by decide +kernel
theorem dX5_step_31 : decode cX5_step 31 = .ok (.iload_n 1, 1) := by decide +kernel
theorem dX5_step_32 : decode cX5_step 32 = .ok (.aload_n 0, 1) := by decide +kernel
theorem dX5_step_33 : decode cX5_step 33 = .ok (.getfield 13, 3) := by decide +kernel
theorem dX5_step_36 : decode cX5_step 36 = .ok (.if_icmp .ge 17, 3) := by decide +kernel
theorem dX5_step_39 : decode cX5_step 39 = .ok (.iload_n 1, 1) := by decide +kernel
theorem dX5_step_40 : decode cX5_step 40 = .ok (.aload_n 0, 1) := by decide +kernel
theorem dX5_step_41 : decode cX5_step 41 = .ok (.getfield 17, 3) := by decide +kernel
theorem dX5_step_44 : decode cX5_step 44 = .ok (.if_icmp .ge 9, 3) := by decide +kernel
theorem dX5_step_47 : decode cX5_step 47 = .ok (.aload_n 0, 1) := by decide +kernel
theorem dX5_step_48 : decode cX5_step 48 = .ok (.iload_n 1, 1) := by decide +kernel
theorem dX5_step_49 : decode cX5_step 49 = .ok (.invokevirtual 36, 3) := by decide +kernel
theorem dX5_step_52 : decode cX5_step 52 = .ok (.return_, 1) := by decide +kernel
theorem dX5_step_53 : decode cX5_step 53 = .ok (.aload_n 0, 1) := by decide +kernel
theorem dX5_step_54 : decode cX5_step 54 = .ok (.aload_n 0, 1) := by decide +kernel
theorem dX5_step_55 : decode cX5_step 55 = .ok (.getfield 13, 3) := by decide +kernel
theorem dX5_step_58 : decode cX5_step 58 = .ok (.aload_n 0, 1) := by decide +kernel
theorem dX5_step_59 : decode cX5_step 59 = .ok (.getfield 17, 3) := by decide +kernel
theorem dX5_step_62 : decode cX5_step 62 = .ok (.if_icmp .le 7, 3) := by decide +kernel
theorem dX5_step_65 : decode cX5_step 65 = .ok (.iconst 0, 1) := by decide +kernel
theorem dX5_step_66 : decode cX5_step 66 = .ok (.goto 4, 3) := by decide +kernel
theorem dX5_step_69 : decode cX5_step 69 = .ok (.iconst 1, 1) := by decide +kernel
theorem dX5_step_70 : decode cX5_step 70 = .ok (.putfield 40, 3) := by decide +kernel
theorem dX5_step_73 : decode cX5_step 73 = .ok (.aload_n 0, 1) := by decide +kernel
theorem dX5_step_74 : decode cX5_step 74 = .ok (.aload_n 0, 1) := by decide +kernel
theorem dX5_step_75 : decode cX5_step 75 = .ok (.getfield 13, 3) := by decide +kernel
theorem dX5_step_78 : decode cX5_step 78 = .ok (.aload_n 0, 1) := by decide +kernel
theorem dX5_step_79 : decode cX5_step 79 = .ok (.getfield 17, 3) := by decide +kernel
theorem dX5_step_82 : decode cX5_step 82 = .ok (.invokestatic 43, 3) := by decide +kernel
theorem dX5_step_85 : decode cX5_step 85 = .ok (.putfield 49, 3) := by decide +kernel
theorem dX5_step_88 : decode cX5_step 88 = .ok (.aload_n 0, 1) := by decide +kernel
theorem dX5_step_89 : decode cX5_step 89 = .ok (.aload_n 0, 1) := by decide +kernel
theorem dX5_step_90 : decode cX5_step 90 = .ok (.getfield 49, 3) := by decide +kernel
theorem dX5_step_93 : decode cX5_step 93 = .ok (.putfield 26, 3) := by decide +kernel
theorem dX5_step_96 : decode cX5_step 96 = .ok (.return_, 1) := by decide +kernel
theorem dX5_readToken_0 : decode cX5_readToken 0 = .ok (.aload_n 0, 1) := by decide +kernel
theorem dX5_readToken_1 : decode cX5_readToken 1 = .ok (.iload_n 1, 1) := by decide +kernel
theorem dX5_readToken_2 : decode cX5_readToken 2 = .ok (.putfield 49, 3) := by decide +kernel
theorem dX5_readToken_5 : decode cX5_readToken 5 = .ok (.aload_n 0, 1) := by decide +kernel
theorem dX5_readToken_6 : decode cX5_readToken 6 = .ok (.getfield 9, 3) := by decide +kernel
theorem dX5_readToken_9 : decode cX5_readToken 9 = .ok (.iload_n 1, 1) := by decide +kernel
theorem dX5_readToken_10 : decode cX5_readToken 10 = .ok (.baload, 1) := by decide +kernel
theorem dX5_readToken_11 : decode cX5_readToken 11 = .ok (.bipush 59, 2) := by decide +kernel
theorem dX5_readToken_13 : decode cX5_readToken 13 = .ok (.if_icmp .ne 16, 3) := by decide +kernel
theorem dX5_readToken_16 : decode cX5_readToken 16 = .ok (.aload_n 0, 1) := by decide +kernel
theorem dX5_readToken_17 : decode cX5_readToken 17 = .ok (.iload_n 1, 1) := by decide +kernel
theorem dX5_readToken_18 : decode cX5_readToken 18 = .ok (.iconst 1, 1) := by decide +kernel
theorem dX5_readToken_19 : decode cX5_readToken 19 = .ok (.iadd, 1) := by decide +kernel
theorem dX5_readToken_20 : decode cX5_readToken 20 = .ok (.putfield 26, 3) := by decide +kernel
theorem dX5_readToken_23 : decode cX5_readToken 23 = .ok (.aload_n 0, 1) := by decide +kernel
theorem dX5_readToken_24 : decode cX5_readToken 24 = .ok (.iconst 4, 1) := by decide +kernel
theorem dX5_readToken_25 : decode cX5_readToken 25 = .ok (.putfield 40, 3) := by decide +kernel
theorem dX5_readToken_28 : decode cX5_readToken 28 = .ok (.return_, 1) := by decide +kernel
theorem dX5_readToken_29 : decode cX5_readToken 29 = .ok (.iconst 0, 1) := by decide +kernel
theorem dX5_readToken_30 : decode cX5_readToken 30 = .ok (.istore_n 2, 1) := by decide +kernel
theorem dX5_readToken_31 : decode cX5_readToken 31 = .ok (.iconst 0, 1) := by decide +kernel
theorem dX5_readToken_32 : decode cX5_readToken 32 = .ok (.istore_n 3, 1) := by decide +kernel
theorem dX5_readToken_33 : decode cX5_readToken 33 = .ok (.iconst 0, 1) := by decide +kernel
theorem dX5_readToken_34 : decode cX5_readToken 34 = .ok (.istore 4, 2) := by decide +kernel
theorem dX5_readToken_36 : decode cX5_readToken 36 = .ok (.iload_n 1, 1) := by decide +kernel
theorem dX5_readToken_37 : decode cX5_readToken 37 = .ok (.istore 5, 2) := by decide +kernel
theorem dX5_readToken_39 : decode cX5_readToken 39 = .ok (.iload 5, 2) := by decide +kernel
theorem dX5_readToken_41 : decode cX5_readToken 41 = .ok (.aload_n 0, 1) := by decide +kernel
theorem dX5_readToken_42 : decode cX5_readToken 42 = .ok (.getfield 13, 3) := by decide +kernel
theorem dX5_readToken_45 : decode cX5_readToken 45 = .ok (.if_icmp .ge 75, 3) := by decide +kernel
theorem dX5_readToken_48 : decode cX5_readToken 48 = .ok (.aload_n 0, 1) := by decide +kernel
theorem dX5_readToken_49 : decode cX5_readToken 49 = .ok (.getfield 9, 3) := by decide +kernel
theorem dX5_readToken_52 : decode cX5_readToken 52 = .ok (.iload 5, 2) := by decide +kernel
theorem dX5_readToken_54 : decode cX5_readToken 54 = .ok (.baload, 1) := by decide +kernel
theorem dX5_readToken_55 : decode cX5_readToken 55 = .ok (.invokestatic 52, 3) := by decide +kernel
theorem dX5_readToken_58 : decode cX5_readToken 58 = .ok (.ifCond .ne 16, 3) := by decide +kernel
theorem dX5_readToken_61 : decode cX5_readToken 61 = .ok (.aload_n 0, 1) := by decide +kernel
theorem dX5_readToken_62 : decode cX5_readToken 62 = .ok (.getfield 9, 3) := by decide +kernel
theorem dX5_readToken_65 : decode cX5_readToken 65 = .ok (.iload 5, 2) := by decide +kernel
theorem dX5_readToken_67 : decode cX5_readToken 67 = .ok (.baload, 1) := by decide +kernel
theorem dX5_readToken_68 : decode cX5_readToken 68 = .ok (.invokestatic 55, 3) := by decide +kernel
theorem dX5_readToken_71 : decode cX5_readToken 71 = .ok (.ifCond .eq 49, 3) := by decide +kernel
theorem dX5_readToken_74 : decode cX5_readToken 74 = .ok (.aload_n 0, 1) := by decide +kernel
theorem dX5_readToken_75 : decode cX5_readToken 75 = .ok (.getfield 9, 3) := by decide +kernel
theorem dX5_readToken_78 : decode cX5_readToken 78 = .ok (.iload 5, 2) := by decide +kernel
theorem dX5_readToken_80 : decode cX5_readToken 80 = .ok (.baload, 1) := by decide +kernel
theorem dX5_readToken_81 : decode cX5_readToken 81 = .ok (.invokestatic 52, 3) := by decide +kernel
theorem dX5_readToken_84 : decode cX5_readToken 84 = .ok (.ifCond .eq 9, 3) := by decide +kernel
theorem dX5_readToken_87 : decode cX5_readToken 87 = .ok (.iinc 2 1, 3) := by decide +kernel
theorem dX5_readToken_90 : decode cX5_readToken 90 = .ok (.goto 24, 3) := by decide +kernel
theorem dX5_readToken_93 : decode cX5_readToken 93 = .ok (.iinc 3 1, 3) := by decide +kernel
theorem dX5_readToken_96 : decode cX5_readToken 96 = .ok (.iload 4, 2) := by decide +kernel
theorem dX5_readToken_98 : decode cX5_readToken 98 = .ok (.bipush 10, 2) := by decide +kernel
theorem dX5_readToken_100 : decode cX5_readToken 100 = .ok (.imul, 1) := by decide +kernel
theorem dX5_readToken_101 : decode cX5_readToken 101 = .ok (.aload_n 0, 1) := by decide +kernel
theorem dX5_readToken_102 : decode cX5_readToken 102 = .ok (.getfield 9, 3) := by decide +kernel
theorem dX5_readToken_105 : decode cX5_readToken 105 = .ok (.iload 5, 2) := by decide +kernel
theorem dX5_readToken_107 : decode cX5_readToken 107 = .ok (.baload, 1) := by decide +kernel
theorem dX5_readToken_108 : decode cX5_readToken 108 = .ok (.bipush 48, 2) := by decide +kernel
theorem dX5_readToken_110 : decode cX5_readToken 110 = .ok (.isub, 1) := by decide +kernel
theorem dX5_readToken_111 : decode cX5_readToken 111 = .ok (.iadd, 1) := by decide +kernel
theorem dX5_readToken_112 : decode cX5_readToken 112 = .ok (.istore 4, 2) := by decide +kernel
theorem dX5_readToken_114 : decode cX5_readToken 114 = .ok (.iinc 5 1, 3) := by decide +kernel
theorem dX5_readToken_117 : decode cX5_readToken 117 = .ok (.goto (-78), 3) := by decide +kernel
theorem dX5_readToken_120 : decode cX5_readToken 120 = .ok (.aload_n 0, 1) := by decide +kernel
theorem dX5_readToken_121 : decode cX5_readToken 121 = .ok (.iload 5, 2) := by decide +kernel
theorem dX5_readToken_123 : decode cX5_readToken 123 = .ok (.putfield 26, 3) := by decide +kernel
theorem dX5_readToken_126 : decode cX5_readToken 126 = .ok (.aload_n 0, 1) := by decide +kernel
theorem dX5_readToken_127 : decode cX5_readToken 127 = .ok (.iload 4, 2) := by decide +kernel
theorem dX5_readToken_129 : decode cX5_readToken 129 = .ok (.putfield 58, 3) := by decide +kernel
theorem dX5_readToken_132 : decode cX5_readToken 132 = .ok (.aload_n 0, 1) := by decide +kernel
theorem dX5_readToken_133 : decode cX5_readToken 133 = .ok (.iload_n 2, 1) := by decide +kernel
theorem dX5_readToken_134 : decode cX5_readToken 134 = .ok (.iload_n 3, 1) := by decide +kernel
theorem dX5_readToken_135 : decode cX5_readToken 135 = .ok (.invokestatic 61, 3) := by decide +kernel
theorem dX5_readToken_138 : decode cX5_readToken 138 = .ok (.putfield 40, 3) := by decide +kernel
theorem dX5_readToken_141 : decode cX5_readToken 141 = .ok (.return_, 1) := by decide +kernel
theorem dX5_kindOf_0 : decode cX5_kindOf 0 = .ok (.iload_n 0, 1) := by decide +kernel
theorem dX5_kindOf_1 : decode cX5_kindOf 1 = .ok (.ifCond .le 9, 3) := by decide +kernel
theorem dX5_kindOf_4 : decode cX5_kindOf 4 = .ok (.iload_n 1, 1) := by decide +kernel
theorem dX5_kindOf_5 : decode cX5_kindOf 5 = .ok (.ifCond .ne 5, 3) := by decide +kernel
theorem dX5_kindOf_8 : decode cX5_kindOf 8 = .ok (.iconst 2, 1) := by decide +kernel
theorem dX5_kindOf_9 : decode cX5_kindOf 9 = .ok (.ireturn, 1) := by decide +kernel
theorem dX5_kindOf_10 : decode cX5_kindOf 10 = .ok (.iload_n 0, 1) := by decide +kernel
theorem dX5_kindOf_11 : decode cX5_kindOf 11 = .ok (.ifCond .ne 16, 3) := by decide +kernel
theorem dX5_kindOf_14 : decode cX5_kindOf 14 = .ok (.iload_n 1, 1) := by decide +kernel
theorem dX5_kindOf_15 : decode cX5_kindOf 15 = .ok (.ifCond .le 12, 3) := by decide +kernel
theorem dX5_kindOf_18 : decode cX5_kindOf 18 = .ok (.iload_n 1, 1) := by decide +kernel
theorem dX5_kindOf_19 : decode cX5_kindOf 19 = .ok (.iconst 4, 1) := by decide +kernel
theorem dX5_kindOf_20 : decode cX5_kindOf 20 = .ok (.if_icmp .gt 7, 3) := by decide +kernel
theorem dX5_kindOf_23 : decode cX5_kindOf 23 = .ok (.iconst 3, 1) := by decide +kernel
theorem dX5_kindOf_24 : decode cX5_kindOf 24 = .ok (.goto 4, 3) := by decide +kernel
theorem dX5_kindOf_27 : decode cX5_kindOf 27 = .ok (.iconst 0, 1) := by decide +kernel
theorem dX5_kindOf_28 : decode cX5_kindOf 28 = .ok (.ireturn, 1) := by decide +kernel
theorem dX5_isWord_0 : decode cX5_isWord 0 = .ok (.aload_n 0, 1) := by decide +kernel
theorem dX5_isWord_1 : decode cX5_isWord 1 = .ok (.getfield 40, 3) := by decide +kernel
theorem dX5_isWord_4 : decode cX5_isWord 4 = .ok (.iconst 2, 1) := by decide +kernel
theorem dX5_isWord_5 : decode cX5_isWord 5 = .ok (.if_icmp .ne 19, 3) := by decide +kernel
theorem dX5_isWord_8 : decode cX5_isWord 8 = .ok (.aload_n 0, 1) := by decide +kernel
theorem dX5_isWord_9 : decode cX5_isWord 9 = .ok (.getfield 26, 3) := by decide +kernel
theorem dX5_isWord_12 : decode cX5_isWord 12 = .ok (.aload_n 0, 1) := by decide +kernel
theorem dX5_isWord_13 : decode cX5_isWord 13 = .ok (.getfield 49, 3) := by decide +kernel
theorem dX5_isWord_16 : decode cX5_isWord 16 = .ok (.isub, 1) := by decide +kernel
theorem dX5_isWord_17 : decode cX5_isWord 17 = .ok (.aload_n 1, 1) := by decide +kernel
theorem dX5_isWord_18 : decode cX5_isWord 18 = .ok (.invokevirtual 64, 3) := by decide +kernel
theorem dX5_isWord_21 : decode cX5_isWord 21 = .ok (.if_icmp .eq 5, 3) := by decide +kernel
theorem dX5_isWord_24 : decode cX5_isWord 24 = .ok (.iconst 0, 1) := by decide +kernel
theorem dX5_isWord_25 : decode cX5_isWord 25 = .ok (.ireturn, 1) := by decide +kernel
theorem dX5_isWord_26 : decode cX5_isWord 26 = .ok (.iconst 0, 1) := by decide +kernel
theorem dX5_isWord_27 : decode cX5_isWord 27 = .ok (.istore_n 2, 1) := by decide +kernel
theorem dX5_isWord_28 : decode cX5_isWord 28 = .ok (.iload_n 2, 1) := by decide +kernel
theorem dX5_isWord_29 : decode cX5_isWord 29 = .ok (.aload_n 1, 1) := by decide +kernel
theorem dX5_isWord_30 : decode cX5_isWord 30 = .ok (.invokevirtual 64, 3) := by decide +kernel
theorem dX5_isWord_33 : decode cX5_isWord 33 = .ok (.if_icmp .ge 30, 3) := by decide +kernel
theorem dX5_isWord_36 : decode cX5_isWord 36 = .ok (.aload_n 0, 1) := by decide +kernel
theorem dX5_isWord_37 : decode cX5_isWord 37 = .ok (.getfield 9, 3) := by decide +kernel
theorem dX5_isWord_40 : decode cX5_isWord 40 = .ok (.aload_n 0, 1) := by decide +kernel
theorem dX5_isWord_41 : decode cX5_isWord 41 = .ok (.getfield 49, 3) := by decide +kernel
theorem dX5_isWord_44 : decode cX5_isWord 44 = .ok (.iload_n 2, 1) := by decide +kernel
theorem dX5_isWord_45 : decode cX5_isWord 45 = .ok (.iadd, 1) := by decide +kernel
theorem dX5_isWord_46 : decode cX5_isWord 46 = .ok (.baload, 1) := by decide +kernel
theorem dX5_isWord_47 : decode cX5_isWord 47 = .ok (.aload_n 1, 1) := by decide +kernel
theorem dX5_isWord_48 : decode cX5_isWord 48 = .ok (.iload_n 2, 1) := by decide +kernel
theorem dX5_isWord_49 : decode cX5_isWord 49 = .ok (.invokevirtual 70, 3) := by decide +kernel
theorem dX5_isWord_52 : decode cX5_isWord 52 = .ok (.if_icmp .eq 5, 3) := by decide +kernel
theorem dX5_isWord_55 : decode cX5_isWord 55 = .ok (.iconst 0, 1) := by decide +kernel
theorem dX5_isWord_56 : decode cX5_isWord 56 = .ok (.ireturn, 1) := by decide +kernel
theorem dX5_isWord_57 : decode cX5_isWord 57 = .ok (.iinc 2 1, 3) := by decide +kernel
theorem dX5_isWord_60 : decode cX5_isWord 60 = .ok (.goto (-32), 3) := by decide +kernel
theorem dX5_isWord_63 : decode cX5_isWord 63 = .ok (.iconst 1, 1) := by decide +kernel
theorem dX5_isWord_64 : decode cX5_isWord 64 = .ok (.ireturn, 1) := by decide +kernel
theorem dX5_stepToNumber_0 : decode cX5_stepToNumber 0 = .ok (.aload_n 0, 1) := by decide +kernel
theorem dX5_stepToNumber_1 : decode cX5_stepToNumber 1 = .ok (.invokevirtual 29, 3) := by decide +kernel
theorem dX5_stepToNumber_4 : decode cX5_stepToNumber 4 = .ok (.aload_n 0, 1) := by decide +kernel
theorem dX5_stepToNumber_5 : decode cX5_stepToNumber 5 = .ok (.getfield 40, 3) := by decide +kernel
theorem dX5_stepToNumber_8 : decode cX5_stepToNumber 8 = .ok (.iconst 3, 1) := by decide +kernel
theorem dX5_stepToNumber_9 : decode cX5_stepToNumber 9 = .ok (.if_icmp .eq 9, 3) := by decide +kernel
theorem dX5_stepToNumber_12 : decode cX5_stepToNumber 12 = .ok (.aload_n 0, 1) := by decide +kernel
theorem dX5_stepToNumber_13 : decode cX5_stepToNumber 13 = .ok (.iconst 1, 1) := by decide +kernel
theorem dX5_stepToNumber_14 : decode cX5_stepToNumber 14 = .ok (.invokevirtual 74, 3) := by decide +kernel
theorem dX5_stepToNumber_17 : decode cX5_stepToNumber 17 = .ok (.ireturn, 1) := by decide +kernel
theorem dX5_stepToNumber_18 : decode cX5_stepToNumber 18 = .ok (.aload_n 0, 1) := by decide +kernel
theorem dX5_stepToNumber_19 : decode cX5_stepToNumber 19 = .ok (.getfield 58, 3) := by decide +kernel
theorem dX5_stepToNumber_22 : decode cX5_stepToNumber 22 = .ok (.iload_n 1, 1) := by decide +kernel
theorem dX5_stepToNumber_23 : decode cX5_stepToNumber 23 = .ok (.iload_n 2, 1) := by decide +kernel
theorem dX5_stepToNumber_24 : decode cX5_stepToNumber 24 = .ok (.invokestatic 78, 3) := by decide +kernel
theorem dX5_stepToNumber_27 : decode cX5_stepToNumber 27 = .ok (.ifCond .ne 11, 3) := by decide +kernel
theorem dX5_stepToNumber_30 : decode cX5_stepToNumber 30 = .ok (.aload_n 0, 1) := by decide +kernel
theorem dX5_stepToNumber_31 : decode cX5_stepToNumber 31 = .ok (.iconst 2, 1) := by decide +kernel
theorem dX5_stepToNumber_32 : decode cX5_stepToNumber 32 = .ok (.invokevirtual 74, 3) := by decide +kernel
theorem dX5_stepToNumber_35 : decode cX5_stepToNumber 35 = .ok (.ifCond .eq 7, 3) := by decide +kernel
theorem dX5_stepToNumber_38 : decode cX5_stepToNumber 38 = .ok (.iconst 1, 1) := by decide +kernel
theorem dX5_stepToNumber_39 : decode cX5_stepToNumber 39 = .ok (.goto 4, 3) := by decide +kernel
theorem dX5_stepToNumber_42 : decode cX5_stepToNumber 42 = .ok (.iconst 0, 1) := by decide +kernel
theorem dX5_stepToNumber_43 : decode cX5_stepToNumber 43 = .ok (.ireturn, 1) := by decide +kernel
theorem dX5_passSemicolon_0 : decode cX5_passSemicolon 0 = .ok (.aload_n 0, 1) := by decide +kernel
theorem dX5_passSemicolon_1 : decode cX5_passSemicolon 1 = .ok (.getfield 40, 3) := by decide +kernel
theorem dX5_passSemicolon_4 : decode cX5_passSemicolon 4 = .ok (.iconst 4, 1) := by decide +kernel
theorem dX5_passSemicolon_5 : decode cX5_passSemicolon 5 = .ok (.if_icmp .eq 9, 3) := by decide +kernel
theorem dX5_passSemicolon_8 : decode cX5_passSemicolon 8 = .ok (.aload_n 0, 1) := by decide +kernel
theorem dX5_passSemicolon_9 : decode cX5_passSemicolon 9 = .ok (.iconst 1, 1) := by decide +kernel
theorem dX5_passSemicolon_10 : decode cX5_passSemicolon 10 = .ok (.invokevirtual 74, 3) := by decide +kernel
theorem dX5_passSemicolon_13 : decode cX5_passSemicolon 13 = .ok (.ireturn, 1) := by decide +kernel
theorem dX5_passSemicolon_14 : decode cX5_passSemicolon 14 = .ok (.aload_n 0, 1) := by decide +kernel
theorem dX5_passSemicolon_15 : decode cX5_passSemicolon 15 = .ok (.invokevirtual 29, 3) := by decide +kernel
theorem dX5_passSemicolon_18 : decode cX5_passSemicolon 18 = .ok (.iconst 1, 1) := by decide +kernel
theorem dX5_passSemicolon_19 : decode cX5_passSemicolon 19 = .ok (.ireturn, 1) := by decide +kernel
theorem dX5_refuse_0 : decode cX5_refuse 0 = .ok (.aload_n 0, 1) := by decide +kernel
theorem dX5_refuse_1 : decode cX5_refuse 1 = .ok (.iload_n 1, 1) := by decide +kernel
theorem dX5_refuse_2 : decode cX5_refuse 2 = .ok (.putfield 20, 3) := by decide +kernel
theorem dX5_refuse_5 : decode cX5_refuse 5 = .ok (.aload_n 0, 1) := by decide +kernel
theorem dX5_refuse_6 : decode cX5_refuse 6 = .ok (.aload_n 0, 1) := by decide +kernel
theorem dX5_refuse_7 : decode cX5_refuse 7 = .ok (.getfield 49, 3) := by decide +kernel
theorem dX5_refuse_10 : decode cX5_refuse 10 = .ok (.putfield 23, 3) := by decide +kernel
theorem dX5_refuse_13 : decode cX5_refuse 13 = .ok (.iconst 0, 1) := by decide +kernel
theorem dX5_refuse_14 : decode cX5_refuse 14 = .ok (.ireturn, 1) := by decide +kernel
theorem dX5_isBlank_0 : decode cX5_isBlank 0 = .ok (.iload_n 0, 1) := by decide +kernel
theorem dX5_isBlank_1 : decode cX5_isBlank 1 = .ok (.bipush 32, 2) := by decide +kernel
theorem dX5_isBlank_3 : decode cX5_isBlank 3 = .ok (.if_icmp .eq 9, 3) := by decide +kernel
theorem dX5_isBlank_6 : decode cX5_isBlank 6 = .ok (.iload_n 0, 1) := by decide +kernel
theorem dX5_isBlank_7 : decode cX5_isBlank 7 = .ok (.bipush 10, 2) := by decide +kernel
theorem dX5_isBlank_9 : decode cX5_isBlank 9 = .ok (.if_icmp .ne 7, 3) := by decide +kernel
theorem dX5_isBlank_12 : decode cX5_isBlank 12 = .ok (.iconst 1, 1) := by decide +kernel
theorem dX5_isBlank_13 : decode cX5_isBlank 13 = .ok (.goto 4, 3) := by decide +kernel
theorem dX5_isBlank_16 : decode cX5_isBlank 16 = .ok (.iconst 0, 1) := by decide +kernel
theorem dX5_isBlank_17 : decode cX5_isBlank 17 = .ok (.ireturn, 1) := by decide +kernel
theorem dX5_isLetter_0 : decode cX5_isLetter 0 = .ok (.iload_n 0, 1) := by decide +kernel
theorem dX5_isLetter_1 : decode cX5_isLetter 1 = .ok (.bipush 97, 2) := by decide +kernel
theorem dX5_isLetter_3 : decode cX5_isLetter 3 = .ok (.if_icmp .lt 13, 3) := by decide +kernel
theorem dX5_isLetter_6 : decode cX5_isLetter 6 = .ok (.iload_n 0, 1) := by decide +kernel
theorem dX5_isLetter_7 : decode cX5_isLetter 7 = .ok (.bipush 122, 2) := by decide +kernel
theorem dX5_isLetter_9 : decode cX5_isLetter 9 = .ok (.if_icmp .gt 7, 3) := by decide +kernel
theorem dX5_isLetter_12 : decode cX5_isLetter 12 = .ok (.iconst 1, 1) := by decide +kernel
theorem dX5_isLetter_13 : decode cX5_isLetter 13 = .ok (.goto 4, 3) := by decide +kernel
theorem dX5_isLetter_16 : decode cX5_isLetter 16 = .ok (.iconst 0, 1) := by decide +kernel
theorem dX5_isLetter_17 : decode cX5_isLetter 17 = .ok (.ireturn, 1) := by decide +kernel
theorem dX5_isDigit_0 : decode cX5_isDigit 0 = .ok (.iload_n 0, 1) := by decide +kernel
theorem dX5_isDigit_1 : decode cX5_isDigit 1 = .ok (.bipush 48, 2) := by decide +kernel
theorem dX5_isDigit_3 : decode cX5_isDigit 3 = .ok (.if_icmp .lt 13, 3) := by decide +kernel
theorem dX5_isDigit_6 : decode cX5_isDigit 6 = .ok (.iload_n 0, 1) := by decide +kernel
theorem dX5_isDigit_7 : decode cX5_isDigit 7 = .ok (.bipush 57, 2) := by decide +kernel
theorem dX5_isDigit_9 : decode cX5_isDigit 9 = .ok (.if_icmp .gt 7, 3) := by decide +kernel
theorem dX5_isDigit_12 : decode cX5_isDigit 12 = .ok (.iconst 1, 1) := by decide +kernel
theorem dX5_isDigit_13 : decode cX5_isDigit 13 = .ok (.goto 4, 3) := by decide +kernel
theorem dX5_isDigit_16 : decode cX5_isDigit 16 = .ok (.iconst 0, 1) := by decide +kernel
theorem dX5_isDigit_17 : decode cX5_isDigit 17 = .ok (.ireturn, 1) := by decide +kernel
theorem dX6_init_0 : decode cX6_init 0 = .ok (.aload_n 0, 1) := by decide +kernel
theorem dX6_init_1 : decode cX6_init 1 = .ok (.invokespecial 1, 3) := by decide +kernel
theorem dX6_init_4 : decode cX6_init 4 = .ok (.aload_n 0, 1) := by decide +kernel
theorem dX6_init_5 : decode cX6_init 5 = .ok (.new 7, 3) := by decide +kernel
theorem dX6_init_8 : decode cX6_init 8 = .ok (.dup, 1) := by decide +kernel
theorem dX6_init_9 : decode cX6_init 9 = .ok (.invokespecial 9, 3) := by decide +kernel
theorem dX6_init_12 : decode cX6_init 12 = .ok (.putfield 10, 3) := by decide +kernel
theorem dX6_init_15 : decode cX6_init 15 = .ok (.aload_n 0, 1) := by decide +kernel
theorem dX6_init_16 : decode cX6_init 16 = .ok (.new 16, 3) := by decide +kernel
theorem dX6_init_19 : decode cX6_init 19 = .ok (.dup, 1) := by decide +kernel
theorem dX6_init_20 : decode cX6_init 20 = .ok (.invokespecial 18, 3) := by decide +kernel
theorem dX6_init_23 : decode cX6_init 23 = .ok (.putfield 19, 3) := by decide +kernel
theorem dX6_init_26 : decode cX6_init 26 = .ok (.aload_n 0, 1) := by decide +kernel
theorem dX6_init_27 : decode cX6_init 27 = .ok (.bipush 6, 2) := by decide +kernel
theorem dX6_init_29 : decode cX6_init 29 = .ok (.anewarray 23, 3) := by decide +kernel
theorem dX6_init_32 : decode cX6_init 32 = .ok (.putfield 25, 3) := by decide +kernel
theorem dX6_init_35 : decode cX6_init 35 = .ok (.iconst 0, 1) := by decide +kernel
theorem dX6_init_36 : decode cX6_init 36 = .ok (.istore_n 1, 1) := by decide +kernel
theorem dX6_init_37 : decode cX6_init 37 = .ok (.iload_n 1, 1) := by decide +kernel
theorem dX6_init_38 : decode cX6_init 38 = .ok (.bipush 6, 2) := by decide +kernel
theorem dX6_init_40 : decode cX6_init 40 = .ok (.if_icmp .ge 22, 3) := by decide +kernel
theorem dX6_init_43 : decode cX6_init 43 = .ok (.aload_n 0, 1) := by decide +kernel
theorem dX6_init_44 : decode cX6_init 44 = .ok (.getfield 25, 3) := by decide +kernel
theorem dX6_init_47 : decode cX6_init 47 = .ok (.iload_n 1, 1) := by decide +kernel
theorem dX6_init_48 : decode cX6_init 48 = .ok (.new 23, 3) := by decide +kernel
theorem dX6_init_51 : decode cX6_init 51 = .ok (.dup, 1) := by decide +kernel
theorem dX6_init_52 : decode cX6_init 52 = .ok (.invokespecial 29, 3) := by decide +kernel
theorem dX6_init_55 : decode cX6_init 55 = .ok (.aastore, 1) := by decide +kernel
theorem dX6_init_56 : decode cX6_init 56 = .ok (.iinc 1 1, 3) := by decide +kernel
theorem dX6_init_59 : decode cX6_init 59 = .ok (.goto (-22), 3) := by decide +kernel
theorem dX6_init_62 : decode cX6_init 62 = .ok (.aload_n 0, 1) := by decide +kernel
theorem dX6_init_63 : decode cX6_init 63 = .ok (.new 23, 3) := by decide +kernel
theorem dX6_init_66 : decode cX6_init 66 = .ok (.dup, 1) := by decide +kernel
theorem dX6_init_67 : decode cX6_init 67 = .ok (.invokespecial 29, 3) := by decide +kernel
theorem dX6_init_70 : decode cX6_init 70 = .ok (.putfield 30, 3) := by decide +kernel
theorem dX6_init_73 : decode cX6_init 73 = .ok (.aload_n 0, 1) := by decide +kernel
theorem dX6_init_74 : decode cX6_init 74 = .ok (.new 34, 3) := by decide +kernel
theorem dX6_init_77 : decode cX6_init 77 = .ok (.dup, 1) := by decide +kernel
theorem dX6_init_78 : decode cX6_init 78 = .ok (.invokespecial 36, 3) := by decide +kernel
theorem dX6_init_81 : decode cX6_init 81 = .ok (.putfield 37, 3) := by decide +kernel
theorem dX6_init_84 : decode cX6_init 84 = .ok (.aload_n 0, 1) := by decide +kernel
theorem dX6_init_85 : decode cX6_init 85 = .ok (.new 41, 3) := by decide +kernel
theorem dX6_init_88 : decode cX6_init 88 = .ok (.dup, 1) := by decide +kernel
theorem dX6_init_89 : decode cX6_init 89 = .ok (.invokespecial 43, 3) := by decide +kernel
theorem dX6_init_92 : decode cX6_init 92 = .ok (.putfield 44, 3) := by decide +kernel
theorem dX6_init_95 : decode cX6_init 95 = .ok (.aload_n 0, 1) := by decide +kernel
theorem dX6_init_96 : decode cX6_init 96 = .ok (.new 48, 3) := by decide +kernel
theorem dX6_init_99 : decode cX6_init 99 = .ok (.dup, 1) := by decide +kernel
theorem dX6_init_100 : decode cX6_init 100 = .ok (.invokespecial 50, 3) := by decide +kernel
theorem dX6_init_103 : decode cX6_init 103 = .ok (.putfield 51, 3) := by decide +kernel
theorem dX6_init_106 : decode cX6_init 106 = .ok (.return_, 1) := by decide +kernel
theorem dX6_feed_0 : decode cX6_feed 0 = .ok (.aload_n 0, 1) := by decide +kernel
theorem dX6_feed_1 : decode cX6_feed 1 = .ok (.getfield 10, 3) := by decide +kernel
theorem dX6_feed_4 : decode cX6_feed 4 = .ok (.invokevirtual 55, 3) := by decide +kernel
theorem dX6_feed_7 : decode cX6_feed 7 = .ok (.ifCond .ne 5, 3) := by decide +kernel
theorem dX6_feed_10 : decode cX6_feed 10 = .ok (.iconst (-1), 1) := by decide +kernel
theorem dX6_feed_11 : decode cX6_feed 11 = .ok (.ireturn, 1) := by decide +kernel
theorem dX6_feed_12 : decode cX6_feed 12 = .ok (.aload_n 0, 1) := by decide +kernel
theorem dX6_feed_13 : decode cX6_feed 13 = .ok (.getfield 10, 3) := by decide +kernel
theorem dX6_feed_16 : decode cX6_feed 16 = .ok (.iload_n 1, 1) := by decide +kernel
theorem dX6_feed_17 : decode cX6_feed 17 = .ok (.invokevirtual 59, 3) := by decide +kernel
theorem dX6_feed_20 : decode cX6_feed 20 = .ok (.aload_n 0, 1) := by decide +kernel
theorem dX6_feed_21 : decode cX6_feed 21 = .ok (.getfield 10, 3) := by decide +kernel
theorem dX6_feed_24 : decode cX6_feed 24 = .ok (.iload_n 2, 1) := by decide +kernel
theorem dX6_feed_25 : decode cX6_feed 25 = .ok (.invokevirtual 59, 3) := by decide +kernel
theorem dX6_feed_28 : decode cX6_feed 28 = .ok (.aload_n 0, 1) := by decide +kernel
theorem dX6_feed_29 : decode cX6_feed 29 = .ok (.getfield 10, 3) := by decide +kernel
theorem dX6_feed_32 : decode cX6_feed 32 = .ok (.iload_n 3, 1) := by decide +kernel
theorem dX6_feed_33 : decode cX6_feed 33 = .ok (.invokevirtual 59, 3) := by decide +kernel
theorem dX6_feed_36 : decode cX6_feed 36 = .ok (.aload_n 0, 1) := by decide +kernel
theorem dX6_feed_37 : decode cX6_feed 37 = .ok (.getfield 10, 3) := by decide +kernel
theorem dX6_feed_40 : decode cX6_feed 40 = .ok (.iload 4, 2) := by decide +kernel
theorem dX6_feed_42 : decode cX6_feed 42 = .ok (.invokevirtual 59, 3) := by decide +kernel
theorem dX6_feed_45 : decode cX6_feed 45 = .ok (.aload_n 0, 1) := by decide +kernel
theorem dX6_feed_46 : decode cX6_feed 46 = .ok (.getfield 10, 3) := by decide +kernel
theorem dX6_feed_49 : decode cX6_feed 49 = .ok (.iload 5, 2) := by decide +kernel
theorem dX6_feed_51 : decode cX6_feed 51 = .ok (.invokevirtual 59, 3) := by decide +kernel
theorem dX6_feed_54 : decode cX6_feed 54 = .ok (.aload_n 0, 1) := by decide +kernel
theorem dX6_feed_55 : decode cX6_feed 55 = .ok (.getfield 10, 3) := by decide +kernel
theorem dX6_feed_58 : decode cX6_feed 58 = .ok (.getfield 63, 3) := by decide +kernel
theorem dX6_feed_61 : decode cX6_feed 61 = .ok (.ireturn, 1) := by decide +kernel
theorem dX6_end_0 : decode cX6_end 0 = .ok (.iload_n 1, 1) := by decide +kernel
theorem dX6_end_1 : decode cX6_end 1 = .ok (.ifCond .lt 14, 3) := by decide +kernel
theorem dX6_end_4 : decode cX6_end 4 = .ok (.iload_n 1, 1) := by decide +kernel
theorem dX6_end_5 : decode cX6_end 5 = .ok (.aload_n 0, 1) := by decide +kernel
theorem dX6_end_6 : decode cX6_end 6 = .ok (.getfield 10, 3) := by decide +kernel
theorem dX6_end_9 : decode cX6_end 9 = .ok (.getfield 63, 3) := by decide +kernel
theorem dX6_end_12 : decode cX6_end 12 = .ok (.if_icmp .le 5, 3) := by decide +kernel
theorem dX6_end_15 : decode cX6_end 15 = .ok (.iconst 0, 1) := by decide +kernel
theorem dX6_end_16 : decode cX6_end 16 = .ok (.ireturn, 1) := by decide +kernel
theorem dX6_end_17 : decode cX6_end 17 = .ok (.aload_n 0, 1) := by decide +kernel
theorem dX6_end_18 : decode cX6_end 18 = .ok (.getfield 10, 3) := by decide +kernel
theorem dX6_end_21 : decode cX6_end 21 = .ok (.iload_n 1, 1) := by decide +kernel
theorem dX6_end_22 : decode cX6_end 22 = .ok (.putfield 63, 3) := by decide +kernel
theorem dX6_end_25 : decode cX6_end 25 = .ok (.iconst 1, 1) := by decide +kernel
theorem dX6_end_26 : decode cX6_end 26 = .ok (.ireturn, 1) := by decide +kernel
theorem dX6_rules_0 : decode cX6_rules 0 = .ok (.aload_n 0, 1) := by decide +kernel
theorem dX6_rules_1 : decode cX6_rules 1 = .ok (.getfield 19, 3) := by decide +kernel
theorem dX6_rules_4 : decode cX6_rules 4 = .ok (.aload_n 0, 1) := by decide +kernel
theorem dX6_rules_5 : decode cX6_rules 5 = .ok (.getfield 10, 3) := by decide +kernel
theorem dX6_rules_8 : decode cX6_rules 8 = .ok (.invokevirtual 67, 3) := by decide +kernel
theorem dX6_rules_11 : decode cX6_rules 11 = .ok (.istore_n 1, 1) := by decide +kernel
theorem dX6_rules_12 : decode cX6_rules 12 = .ok (.aload_n 0, 1) := by decide +kernel
theorem dX6_rules_13 : decode cX6_rules 13 = .ok (.getfield 10, 3) := by decide +kernel
theorem dX6_rules_16 : decode cX6_rules 16 = .ok (.iconst 0, 1) := by decide +kernel
theorem dX6_rules_17 : decode cX6_rules 17 = .ok (.putfield 63, 3) := by decide +kernel
theorem dX6_rules_20 : decode cX6_rules 20 = .ok (.iload_n 1, 1) := by decide +kernel
theorem dX6_rules_21 : decode cX6_rules 21 = .ok (.ifCond .eq 13, 3) := by decide +kernel
theorem dX6_rules_24 : decode cX6_rules 24 = .ok (.aload_n 0, 1) := by decide +kernel
theorem dX6_rules_25 : decode cX6_rules 25 = .ok (.getfield 19, 3) := by decide +kernel
theorem dX6_rules_28 : decode cX6_rules 28 = .ok (.getfield 71, 3) := by decide +kernel
theorem dX6_rules_31 : decode cX6_rules 31 = .ok (.goto 12, 3) := by decide +kernel
theorem dX6_rules_34 : decode cX6_rules 34 = .ok (.iconst (-1), 1) := by decide +kernel
theorem dX6_rules_35 : decode cX6_rules 35 = .ok (.aload_n 0, 1) := by decide +kernel
theorem dX6_rules_36 : decode cX6_rules 36 = .ok (.getfield 10, 3) := by decide +kernel
theorem dX6_rules_39 : decode cX6_rules 39 = .ok (.getfield 74, 3) := by decide +kernel
theorem dX6_rules_42 : decode cX6_rules 42 = .ok (.isub, 1) := by decide +kernel
theorem dX6_rules_43 : decode cX6_rules 43 = .ok (.ireturn, 1) := by decide +kernel
theorem dX6_clock_0 : decode cX6_clock 0 = .ok (.iload_n 1, 1) := by decide +kernel
theorem dX6_clock_1 : decode cX6_clock 1 = .ok (.invokestatic 77, 3) := by decide +kernel
theorem dX6_clock_4 : decode cX6_clock 4 = .ok (.ifCond .ne 13, 3) := by decide +kernel
theorem dX6_clock_7 : decode cX6_clock 7 = .ok (.new 81, 3) := by decide +kernel
theorem dX6_clock_10 : decode cX6_clock 10 = .ok (.dup, 1) := by decide +kernel
theorem dX6_clock_11 : decode cX6_clock 11 = .ok (.ldc 83, 2) := by decide +kernel
theorem dX6_clock_13 : decode cX6_clock 13 = .ok (.invokespecial 85, 3) := by decide +kernel
theorem dX6_clock_16 : decode cX6_clock 16 = .ok (.athrow, 1) := by decide +kernel
theorem dX6_clock_17 : decode cX6_clock 17 = .ok (.aload_n 0, 1) := by decide +kernel
theorem dX6_clock_18 : decode cX6_clock 18 = .ok (.getfield 30, 3) := by decide +kernel
theorem dX6_clock_21 : decode cX6_clock 21 = .ok (.aload_n 0, 1) := by decide +kernel
theorem dX6_clock_22 : decode cX6_clock 22 = .ok (.getfield 10, 3) := by decide +kernel
theorem dX6_clock_25 : decode cX6_clock 25 = .ok (.invokevirtual 88, 3) := by decide +kernel
theorem dX6_clock_28 : decode cX6_clock 28 = .ok (.istore_n 2, 1) := by decide +kernel
theorem dX6_clock_29 : decode cX6_clock 29 = .ok (.aload_n 0, 1) := by decide +kernel
theorem dX6_clock_30 : decode cX6_clock 30 = .ok (.getfield 10, 3) := by decide +kernel
theorem dX6_clock_33 : decode cX6_clock 33 = .ok (.iconst 0, 1) := by decide +kernel
theorem dX6_clock_34 : decode cX6_clock 34 = .ok (.putfield 63, 3) := by decide +kernel
theorem dX6_clock_37 : decode cX6_clock 37 = .ok (.iload_n 2, 1) := by decide +kernel
theorem dX6_clock_38 : decode cX6_clock 38 = .ok (.ifCond .ne 13, 3) := by decide +kernel
theorem dX6_clock_41 : decode cX6_clock 41 = .ok (.iconst (-1), 1) := by decide +kernel
theorem dX6_clock_42 : decode cX6_clock 42 = .ok (.aload_n 0, 1) := by decide +kernel
theorem dX6_clock_43 : decode cX6_clock 43 = .ok (.getfield 10, 3) := by decide +kernel
theorem dX6_clock_46 : decode cX6_clock 46 = .ok (.getfield 74, 3) := by decide +kernel
theorem dX6_clock_49 : decode cX6_clock 49 = .ok (.isub, 1) := by decide +kernel
theorem dX6_clock_50 : decode cX6_clock 50 = .ok (.ireturn, 1) := by decide +kernel
theorem dX6_clock_51 : decode cX6_clock 51 = .ok (.aload_n 0, 1) := by decide +kernel
theorem dX6_clock_52 : decode cX6_clock 52 = .ok (.getfield 25, 3) := by decide +kernel
theorem dX6_clock_55 : decode cX6_clock 55 = .ok (.iload_n 1, 1) := by decide +kernel
theorem dX6_clock_56 : decode cX6_clock 56 = .ok (.aaload, 1) := by decide +kernel
theorem dX6_clock_57 : decode cX6_clock 57 = .ok (.aload_n 0, 1) := by decide +kernel
theorem dX6_clock_58 : decode cX6_clock 58 = .ok (.getfield 30, 3) := by decide +kernel
theorem dX6_clock_61 : decode cX6_clock 61 = .ok (.invokevirtual 89, 3) := by decide +kernel
theorem dX6_clock_64 : decode cX6_clock 64 = .ok (.aload_n 0, 1) := by decide +kernel
theorem dX6_clock_65 : decode cX6_clock 65 = .ok (.getfield 30, 3) := by decide +kernel
theorem dX6_clock_68 : decode cX6_clock 68 = .ok (.getfield 93, 3) := by decide +kernel
theorem dX6_clock_71 : decode cX6_clock 71 = .ok (.ireturn, 1) := by decide +kernel
theorem dX6_fault_0 : decode cX6_fault 0 = .ok (.aload_n 0, 1) := by decide +kernel
theorem dX6_fault_1 : decode cX6_fault 1 = .ok (.getfield 10, 3) := by decide +kernel
theorem dX6_fault_4 : decode cX6_fault 4 = .ok (.getfield 94, 3) := by decide +kernel
theorem dX6_fault_7 : decode cX6_fault 7 = .ok (.ireturn, 1) := by decide +kernel
theorem dX6_rule_0 : decode cX6_rule 0 = .ok (.iload_n 1, 1) := by decide +kernel
theorem dX6_rule_1 : decode cX6_rule 1 = .ok (.ifCond .lt 20, 3) := by decide +kernel
theorem dX6_rule_4 : decode cX6_rule 4 = .ok (.iload_n 1, 1) := by decide +kernel
theorem dX6_rule_5 : decode cX6_rule 5 = .ok (.iconst 5, 1) := by decide +kernel
theorem dX6_rule_6 : decode cX6_rule 6 = .ok (.if_icmp .ge 15, 3) := by decide +kernel
theorem dX6_rule_9 : decode cX6_rule 9 = .ok (.aload_n 0, 1) := by decide +kernel
theorem dX6_rule_10 : decode cX6_rule 10 = .ok (.getfield 19, 3) := by decide +kernel
theorem dX6_rule_13 : decode cX6_rule 13 = .ok (.getfield 97, 3) := by decide +kernel
theorem dX6_rule_16 : decode cX6_rule 16 = .ok (.iload_n 1, 1) := by decide +kernel
theorem dX6_rule_17 : decode cX6_rule 17 = .ok (.iaload, 1) := by decide +kernel
theorem dX6_rule_18 : decode cX6_rule 18 = .ok (.goto 4, 3) := by decide +kernel
theorem dX6_rule_21 : decode cX6_rule 21 = .ok (.iconst (-1), 1) := by decide +kernel
theorem dX6_rule_22 : decode cX6_rule 22 = .ok (.ireturn, 1) := by decide +kernel
theorem dX6_song_0 : decode cX6_song 0 = .ok (.iload_n 1, 1) := by decide +kernel
theorem dX6_song_1 : decode cX6_song 1 = .ok (.bipush 30, 2) := by decide +kernel
theorem dX6_song_3 : decode cX6_song 3 = .ok (.sipush 900, 3) := by decide +kernel
theorem dX6_song_6 : decode cX6_song 6 = .ok (.invokestatic 101, 3) := by decide +kernel
theorem dX6_song_9 : decode cX6_song 9 = .ok (.ifCond .eq 37, 3) := by decide +kernel
theorem dX6_song_12 : decode cX6_song 12 = .ok (.iload_n 2, 1) := by decide +kernel
theorem dX6_song_13 : decode cX6_song 13 = .ok (.iconst 0, 1) := by decide +kernel
theorem dX6_song_14 : decode cX6_song 14 = .ok (.bipush 11, 2) := by decide +kernel
theorem dX6_song_16 : decode cX6_song 16 = .ok (.invokestatic 101, 3) := by decide +kernel
theorem dX6_song_19 : decode cX6_song 19 = .ok (.ifCond .eq 27, 3) := by decide +kernel
theorem dX6_song_22 : decode cX6_song 22 = .ok (.iload_n 3, 1) := by decide +kernel
theorem dX6_song_23 : decode cX6_song 23 = .ok (.iconst 0, 1) := by decide +kernel
theorem dX6_song_24 : decode cX6_song 24 = .ok (.bipush 11, 2) := by decide +kernel
theorem dX6_song_26 : decode cX6_song 26 = .ok (.invokestatic 101, 3) := by decide +kernel
theorem dX6_song_29 : decode cX6_song 29 = .ok (.ifCond .eq 17, 3) := by decide +kernel
theorem dX6_song_32 : decode cX6_song 32 = .ok (.iload 4, 2) := by decide +kernel
theorem dX6_song_34 : decode cX6_song 34 = .ok (.iconst 0, 1) := by decide +kernel
theorem dX6_song_35 : decode cX6_song 35 = .ok (.iconst 3, 1) := by decide +kernel
theorem dX6_song_36 : decode cX6_song 36 = .ok (.invokestatic 101, 3) := by decide +kernel
theorem dX6_song_39 : decode cX6_song 39 = .ok (.ifCond .eq 7, 3) := by decide +kernel
theorem dX6_song_42 : decode cX6_song 42 = .ok (.iconst 1, 1) := by decide +kernel
theorem dX6_song_43 : decode cX6_song 43 = .ok (.goto 4, 3) := by decide +kernel
theorem dX6_song_46 : decode cX6_song 46 = .ok (.iconst 0, 1) := by decide +kernel
theorem dX6_song_47 : decode cX6_song 47 = .ok (.istore 6, 2) := by decide +kernel
theorem dX6_song_49 : decode cX6_song 49 = .ok (.iload 6, 2) := by decide +kernel
theorem dX6_song_51 : decode cX6_song 51 = .ok (.ifCond .eq 15, 3) := by decide +kernel
theorem dX6_song_54 : decode cX6_song 54 = .ok (.aload_n 0, 1) := by decide +kernel
theorem dX6_song_55 : decode cX6_song 55 = .ok (.getfield 37, 3) := by decide +kernel
theorem dX6_song_58 : decode cX6_song 58 = .ok (.getfield 105, 3) := by decide +kernel
theorem dX6_song_61 : decode cX6_song 61 = .ok (.bipush 24, 2) := by decide +kernel
theorem dX6_song_63 : decode cX6_song 63 = .ok (.if_icmp .lt 5, 3) := by decide +kernel
theorem dX6_song_66 : decode cX6_song 66 = .ok (.iconst (-1), 1) := by decide +kernel
theorem dX6_song_67 : decode cX6_song 67 = .ok (.ireturn, 1) := by decide +kernel
theorem dX6_song_68 : decode cX6_song 68 = .ok (.aload_n 0, 1) := by decide +kernel
theorem dX6_song_69 : decode cX6_song 69 = .ok (.getfield 37, 3) := by decide +kernel
theorem dX6_song_72 : decode cX6_song 72 = .ok (.iload_n 1, 1) := by decide +kernel
theorem dX6_song_73 : decode cX6_song 73 = .ok (.iload_n 2, 1) := by decide +kernel
theorem dX6_song_74 : decode cX6_song 74 = .ok (.iload_n 3, 1) := by decide +kernel
theorem dX6_song_75 : decode cX6_song 75 = .ok (.iload 4, 2) := by decide +kernel
theorem dX6_song_77 : decode cX6_song 77 = .ok (.iload 5, 2) := by decide +kernel
theorem dX6_song_79 : decode cX6_song 79 = .ok (.ifCond .eq 7, 3) := by decide +kernel
theorem dX6_song_82 : decode cX6_song 82 = .ok (.iconst 1, 1) := by decide +kernel
theorem dX6_song_83 : decode cX6_song 83 = .ok (.goto 4, 3) := by decide +kernel
theorem dX6_song_86 : decode cX6_song 86 = .ok (.iconst 0, 1) := by decide +kernel
theorem dX6_song_87 : decode cX6_song 87 = .ok (.invokevirtual 106, 3) := by decide +kernel
theorem dX6_song_90 : decode cX6_song 90 = .ok (.ireturn, 1) := by decide +kernel
theorem dX6_vote_0 : decode cX6_vote 0 = .ok (.aload_n 0, 1) := by decide +kernel
theorem dX6_vote_1 : decode cX6_vote 1 = .ok (.getfield 37, 3) := by decide +kernel
theorem dX6_vote_4 : decode cX6_vote 4 = .ok (.iload_n 1, 1) := by decide +kernel
theorem dX6_vote_5 : decode cX6_vote 5 = .ok (.invokevirtual 110, 3) := by decide +kernel
theorem dX6_vote_8 : decode cX6_vote 8 = .ok (.ifCond .eq 13, 3) := by decide +kernel
theorem dX6_vote_11 : decode cX6_vote 11 = .ok (.iload_n 2, 1) := by decide +kernel
theorem dX6_vote_12 : decode cX6_vote 12 = .ok (.iconst 0, 1) := by decide +kernel
theorem dX6_vote_13 : decode cX6_vote 13 = .ok (.bipush 9, 2) := by decide +kernel
theorem dX6_vote_15 : decode cX6_vote 15 = .ok (.invokestatic 101, 3) := by decide +kernel
theorem dX6_vote_18 : decode cX6_vote 18 = .ok (.ifCond .ne 5, 3) := by decide +kernel
theorem dX6_vote_21 : decode cX6_vote 21 = .ok (.iconst (-1), 1) := by decide +kernel
theorem dX6_vote_22 : decode cX6_vote 22 = .ok (.ireturn, 1) := by decide +kernel
theorem dX6_vote_23 : decode cX6_vote 23 = .ok (.aload_n 0, 1) := by decide +kernel
theorem dX6_vote_24 : decode cX6_vote 24 = .ok (.getfield 37, 3) := by decide +kernel
theorem dX6_vote_27 : decode cX6_vote 27 = .ok (.iload_n 1, 1) := by decide +kernel
theorem dX6_vote_28 : decode cX6_vote 28 = .ok (.iload_n 2, 1) := by decide +kernel
theorem dX6_vote_29 : decode cX6_vote 29 = .ok (.invokevirtual 113, 3) := by decide +kernel
theorem dX6_vote_32 : decode cX6_vote 32 = .ok (.aload_n 0, 1) := by decide +kernel
theorem dX6_vote_33 : decode cX6_vote 33 = .ok (.getfield 37, 3) := by decide +kernel
theorem dX6_vote_36 : decode cX6_vote 36 = .ok (.iload_n 1, 1) := by decide +kernel
theorem dX6_vote_37 : decode cX6_vote 37 = .ok (.invokevirtual 117, 3) := by decide +kernel
theorem dX6_vote_40 : decode cX6_vote 40 = .ok (.ireturn, 1) := by decide +kernel
theorem dX6_ask_0 : decode cX6_ask 0 = .ok (.aload_n 0, 1) := by decide +kernel
theorem dX6_ask_1 : decode cX6_ask 1 = .ok (.getfield 37, 3) := by decide +kernel
theorem dX6_ask_4 : decode cX6_ask 4 = .ok (.iload_n 1, 1) := by decide +kernel
theorem dX6_ask_5 : decode cX6_ask 5 = .ok (.invokevirtual 110, 3) := by decide +kernel
theorem dX6_ask_8 : decode cX6_ask 8 = .ok (.ifCond .eq 17, 3) := by decide +kernel
theorem dX6_ask_11 : decode cX6_ask 11 = .ok (.aload_n 0, 1) := by decide +kernel
theorem dX6_ask_12 : decode cX6_ask 12 = .ok (.getfield 37, 3) := by decide +kernel
theorem dX6_ask_15 : decode cX6_ask 15 = .ok (.getfield 121, 3) := by decide +kernel
theorem dX6_ask_18 : decode cX6_ask 18 = .ok (.iload_n 1, 1) := by decide +kernel
theorem dX6_ask_19 : decode cX6_ask 19 = .ok (.iaload, 1) := by decide +kernel
theorem dX6_ask_20 : decode cX6_ask 20 = .ok (.bipush 20, 2) := by decide +kernel
theorem dX6_ask_22 : decode cX6_ask 22 = .ok (.if_icmp .lt 5, 3) := by decide +kernel
theorem dX6_ask_25 : decode cX6_ask 25 = .ok (.iconst (-1), 1) := by decide +kernel
theorem dX6_ask_26 : decode cX6_ask 26 = .ok (.ireturn, 1) := by decide +kernel
theorem dX6_ask_27 : decode cX6_ask 27 = .ok (.aload_n 0, 1) := by decide +kernel
theorem dX6_ask_28 : decode cX6_ask 28 = .ok (.getfield 37, 3) := by decide +kernel
theorem dX6_ask_31 : decode cX6_ask 31 = .ok (.getfield 121, 3) := by decide +kernel
theorem dX6_ask_34 : decode cX6_ask 34 = .ok (.iload_n 1, 1) := by decide +kernel
theorem dX6_ask_35 : decode cX6_ask 35 = .ok (.dup2, 1) := by decide +kernel
theorem dX6_ask_36 : decode cX6_ask 36 = .ok (.iaload, 1) := by decide +kernel
theorem dX6_ask_37 : decode cX6_ask 37 = .ok (.iconst 1, 1) := by decide +kernel
theorem dX6_ask_38 : decode cX6_ask 38 = .ok (.iadd, 1) := by decide +kernel
theorem dX6_ask_39 : decode cX6_ask 39 = .ok (.iastore, 1) := by decide +kernel
theorem dX6_ask_40 : decode cX6_ask 40 = .ok (.aload_n 0, 1) := by decide +kernel
theorem dX6_ask_41 : decode cX6_ask 41 = .ok (.getfield 37, 3) := by decide +kernel
theorem dX6_ask_44 : decode cX6_ask 44 = .ok (.getfield 121, 3) := by decide +kernel
theorem dX6_ask_47 : decode cX6_ask 47 = .ok (.iload_n 1, 1) := by decide +kernel
theorem dX6_ask_48 : decode cX6_ask 48 = .ok (.iaload, 1) := by decide +kernel
theorem dX6_ask_49 : decode cX6_ask 49 = .ok (.ireturn, 1) := by decide +kernel
theorem dX6_lay_0 : decode cX6_lay 0 = .ok (.iload_n 1, 1) := by decide +kernel
theorem dX6_lay_1 : decode cX6_lay 1 = .ok (.invokestatic 77, 3) := by decide +kernel
theorem dX6_lay_4 : decode cX6_lay 4 = .ok (.ifCond .ne 13, 3) := by decide +kernel
theorem dX6_lay_7 : decode cX6_lay 7 = .ok (.new 81, 3) := by decide +kernel
theorem dX6_lay_10 : decode cX6_lay 10 = .ok (.dup, 1) := by decide +kernel
theorem dX6_lay_11 : decode cX6_lay 11 = .ok (.ldc 83, 2) := by decide +kernel
theorem dX6_lay_13 : decode cX6_lay 13 = .ok (.invokespecial 85, 3) := by decide +kernel
theorem dX6_lay_16 : decode cX6_lay 16 = .ok (.athrow, 1) := by decide +kernel
theorem dX6_lay_17 : decode cX6_lay 17 = .ok (.aload_n 0, 1) := by decide +kernel
theorem dX6_lay_18 : decode cX6_lay 18 = .ok (.getfield 25, 3) := by decide +kernel
theorem dX6_lay_21 : decode cX6_lay 21 = .ok (.iload_n 1, 1) := by decide +kernel
theorem dX6_lay_22 : decode cX6_lay 22 = .ok (.aaload, 1) := by decide +kernel
theorem dX6_lay_23 : decode cX6_lay 23 = .ok (.astore_n 2, 1) := by decide +kernel
theorem dX6_lay_24 : decode cX6_lay 24 = .ok (.aload_n 2, 1) := by decide +kernel
theorem dX6_lay_25 : decode cX6_lay 25 = .ok (.getfield 93, 3) := by decide +kernel
theorem dX6_lay_28 : decode cX6_lay 28 = .ok (.ifCond .eq 17, 3) := by decide +kernel
theorem dX6_lay_31 : decode cX6_lay 31 = .ok (.aload_n 0, 1) := by decide +kernel
theorem dX6_lay_32 : decode cX6_lay 32 = .ok (.getfield 44, 3) := by decide +kernel
theorem dX6_lay_35 : decode cX6_lay 35 = .ok (.aload_n 2, 1) := by decide +kernel
theorem dX6_lay_36 : decode cX6_lay 36 = .ok (.getfield 124, 3) := by decide +kernel
theorem dX6_lay_39 : decode cX6_lay 39 = .ok (.invokevirtual 127, 3) := by decide +kernel
theorem dX6_lay_42 : decode cX6_lay 42 = .ok (.ifCond .ne 5, 3) := by decide +kernel
theorem dX6_lay_45 : decode cX6_lay 45 = .ok (.iconst (-1), 1) := by decide +kernel
theorem dX6_lay_46 : decode cX6_lay 46 = .ok (.ireturn, 1) := by decide +kernel
theorem dX6_lay_47 : decode cX6_lay 47 = .ok (.aload_n 0, 1) := by decide +kernel
theorem dX6_lay_48 : decode cX6_lay 48 = .ok (.getfield 51, 3) := by decide +kernel
theorem dX6_lay_51 : decode cX6_lay 51 = .ok (.aload_n 0, 1) := by decide +kernel
theorem dX6_lay_52 : decode cX6_lay 52 = .ok (.getfield 37, 3) := by decide +kernel
theorem dX6_lay_55 : decode cX6_lay 55 = .ok (.aload_n 0, 1) := by decide +kernel
theorem dX6_lay_56 : decode cX6_lay 56 = .ok (.getfield 19, 3) := by decide +kernel
theorem dX6_lay_59 : decode cX6_lay 59 = .ok (.invokevirtual 130, 3) := by decide +kernel
theorem dX6_lay_62 : decode cX6_lay 62 = .ok (.iconst 0, 1) := by decide +kernel
theorem dX6_lay_63 : decode cX6_lay 63 = .ok (.istore_n 3, 1) := by decide +kernel
theorem dX6_lay_64 : decode cX6_lay 64 = .ok (.aload_n 0, 1) := by decide +kernel
theorem dX6_lay_65 : decode cX6_lay 65 = .ok (.getfield 44, 3) := by decide +kernel
theorem dX6_lay_68 : decode cX6_lay 68 = .ok (.getfield 134, 3) := by decide +kernel
theorem dX6_lay_71 : decode cX6_lay 71 = .ok (.sipush 3600, 3) := by decide +kernel
theorem dX6_lay_74 : decode cX6_lay 74 = .ok (.imul, 1) := by decide +kernel
theorem dX6_lay_75 : decode cX6_lay 75 = .ok (.istore 4, 2) := by decide +kernel
theorem dX6_lay_77 : decode cX6_lay 77 = .ok (.iconst 0, 1) := by decide +kernel
theorem dX6_lay_78 : decode cX6_lay 78 = .ok (.istore 5, 2) := by decide +kernel
theorem dX6_lay_80 : decode cX6_lay 80 = .ok (.iload 5, 2) := by decide +kernel
theorem dX6_lay_82 : decode cX6_lay 82 = .ok (.aload_n 2, 1) := by decide +kernel
theorem dX6_lay_83 : decode cX6_lay 83 = .ok (.getfield 93, 3) := by decide +kernel
theorem dX6_lay_86 : decode cX6_lay 86 = .ok (.if_icmp .ge 45, 3) := by decide +kernel
theorem dX6_lay_89 : decode cX6_lay 89 = .ok (.aload_n 2, 1) := by decide +kernel
theorem dX6_lay_90 : decode cX6_lay 90 = .ok (.iload 5, 2) := by decide +kernel
theorem dX6_lay_92 : decode cX6_lay 92 = .ok (.invokevirtual 137, 3) := by decide +kernel
theorem dX6_lay_95 : decode cX6_lay 95 = .ok (.ifCond .eq 18, 3) := by decide +kernel
theorem dX6_lay_98 : decode cX6_lay 98 = .ok (.aload_n 0, 1) := by decide +kernel
theorem dX6_lay_99 : decode cX6_lay 99 = .ok (.aload_n 2, 1) := by decide +kernel
theorem dX6_lay_100 : decode cX6_lay 100 = .ok (.iload 5, 2) := by decide +kernel
theorem dX6_lay_102 : decode cX6_lay 102 = .ok (.iload 4, 2) := by decide +kernel
theorem dX6_lay_104 : decode cX6_lay 104 = .ok (.invokevirtual 140, 3) := by decide +kernel
theorem dX6_lay_107 : decode cX6_lay 107 = .ok (.ifCond .eq 6, 3) := by decide +kernel
theorem dX6_lay_110 : decode cX6_lay 110 = .ok (.iinc 3 1, 3) := by decide +kernel
theorem dX6_lay_113 : decode cX6_lay 113 = .ok (.iload 4, 2) := by decide +kernel
theorem dX6_lay_115 : decode cX6_lay 115 = .ok (.aload_n 2, 1) := by decide +kernel
theorem dX6_lay_116 : decode cX6_lay 116 = .ok (.getfield 144, 3) := by decide +kernel
theorem dX6_lay_119 : decode cX6_lay 119 = .ok (.iload 5, 2) := by decide +kernel
theorem dX6_lay_121 : decode cX6_lay 121 = .ok (.iaload, 1) := by decide +kernel
theorem dX6_lay_122 : decode cX6_lay 122 = .ok (.iadd, 1) := by decide +kernel
theorem dX6_lay_123 : decode cX6_lay 123 = .ok (.istore 4, 2) := by decide +kernel
theorem dX6_lay_125 : decode cX6_lay 125 = .ok (.iinc 5 1, 3) := by decide +kernel
theorem dX6_lay_128 : decode cX6_lay 128 = .ok (.goto (-48), 3) := by decide +kernel
theorem dX6_lay_131 : decode cX6_lay 131 = .ok (.aload_n 0, 1) := by decide +kernel
theorem dX6_lay_132 : decode cX6_lay 132 = .ok (.getfield 44, 3) := by decide +kernel
theorem dX6_lay_135 : decode cX6_lay 135 = .ok (.aload_n 2, 1) := by decide +kernel
theorem dX6_lay_136 : decode cX6_lay 136 = .ok (.getfield 93, 3) := by decide +kernel
theorem dX6_lay_139 : decode cX6_lay 139 = .ok (.invokevirtual 147, 3) := by decide +kernel
theorem dX6_lay_142 : decode cX6_lay 142 = .ok (.iload_n 3, 1) := by decide +kernel
theorem dX6_lay_143 : decode cX6_lay 143 = .ok (.ireturn, 1) := by decide +kernel
theorem dX6_told_0 : decode cX6_told 0 = .ok (.aload_n 0, 1) := by decide +kernel
theorem dX6_told_1 : decode cX6_told 1 = .ok (.getfield 37, 3) := by decide +kernel
theorem dX6_told_4 : decode cX6_told 4 = .ok (.iload_n 1, 1) := by decide +kernel
theorem dX6_told_5 : decode cX6_told 5 = .ok (.invokevirtual 110, 3) := by decide +kernel
theorem dX6_told_8 : decode cX6_told 8 = .ok (.ifCond .ne 6, 3) := by decide +kernel
theorem dX6_told_11 : decode cX6_told 11 = .ok (.bipush (-2), 2) := by decide +kernel
theorem dX6_told_13 : decode cX6_told 13 = .ok (.ireturn, 1) := by decide +kernel
theorem dX6_told_14 : decode cX6_told 14 = .ok (.iload_n 2, 1) := by decide +kernel
theorem dX6_told_15 : decode cX6_told 15 = .ok (.tableswitch 82 0 4 #[33, 42, 52, 62, 72], 33) := by decide +kernel
theorem dX6_told_48 : decode cX6_told 48 = .ok (.aload_n 0, 1) := by decide +kernel
theorem dX6_told_49 : decode cX6_told 49 = .ok (.getfield 37, 3) := by decide +kernel
theorem dX6_told_52 : decode cX6_told 52 = .ok (.iload_n 1, 1) := by decide +kernel
theorem dX6_told_53 : decode cX6_told 53 = .ok (.invokevirtual 117, 3) := by decide +kernel
theorem dX6_told_56 : decode cX6_told 56 = .ok (.ireturn, 1) := by decide +kernel
theorem dX6_told_57 : decode cX6_told 57 = .ok (.aload_n 0, 1) := by decide +kernel
theorem dX6_told_58 : decode cX6_told 58 = .ok (.getfield 37, 3) := by decide +kernel
theorem dX6_told_61 : decode cX6_told 61 = .ok (.getfield 150, 3) := by decide +kernel
theorem dX6_told_64 : decode cX6_told 64 = .ok (.iload_n 1, 1) := by decide +kernel
theorem dX6_told_65 : decode cX6_told 65 = .ok (.iaload, 1) := by decide +kernel
theorem dX6_told_66 : decode cX6_told 66 = .ok (.ireturn, 1) := by decide +kernel
theorem dX6_told_67 : decode cX6_told 67 = .ok (.aload_n 0, 1) := by decide +kernel
theorem dX6_told_68 : decode cX6_told 68 = .ok (.getfield 37, 3) := by decide +kernel
theorem dX6_told_71 : decode cX6_told 71 = .ok (.getfield 153, 3) := by decide +kernel
theorem dX6_told_74 : decode cX6_told 74 = .ok (.iload_n 1, 1) := by decide +kernel
theorem dX6_told_75 : decode cX6_told 75 = .ok (.iaload, 1) := by decide +kernel
theorem dX6_told_76 : decode cX6_told 76 = .ok (.ireturn, 1) := by decide +kernel
theorem dX6_told_77 : decode cX6_told 77 = .ok (.aload_n 0, 1) := by decide +kernel
theorem dX6_told_78 : decode cX6_told 78 = .ok (.getfield 37, 3) := by decide +kernel
theorem dX6_told_81 : decode cX6_told 81 = .ok (.getfield 121, 3) := by decide +kernel
theorem dX6_told_84 : decode cX6_told 84 = .ok (.iload_n 1, 1) := by decide +kernel
theorem dX6_told_85 : decode cX6_told 85 = .ok (.iaload, 1) := by decide +kernel
theorem dX6_told_86 : decode cX6_told 86 = .ok (.ireturn, 1) := by decide +kernel
theorem dX6_told_87 : decode cX6_told 87 = .ok (.aload_n 0, 1) := by decide +kernel
theorem dX6_told_88 : decode cX6_told 88 = .ok (.getfield 37, 3) := by decide +kernel
theorem dX6_told_91 : decode cX6_told 91 = .ok (.getfield 156, 3) := by decide +kernel
theorem dX6_told_94 : decode cX6_told 94 = .ok (.iload_n 1, 1) := by decide +kernel
theorem dX6_told_95 : decode cX6_told 95 = .ok (.iaload, 1) := by decide +kernel
theorem dX6_told_96 : decode cX6_told 96 = .ok (.ireturn, 1) := by decide +kernel
theorem dX6_told_97 : decode cX6_told 97 = .ok (.bipush (-2), 2) := by decide +kernel
theorem dX6_told_99 : decode cX6_told 99 = .ok (.ireturn, 1) := by decide +kernel
theorem dX6_play_0 : decode cX6_play 0 = .ok (.iload_n 1, 1) := by decide +kernel
theorem dX6_play_1 : decode cX6_play 1 = .ok (.ifCond .lt 23, 3) := by decide +kernel
theorem dX6_play_4 : decode cX6_play 4 = .ok (.iload_n 1, 1) := by decide +kernel
theorem dX6_play_5 : decode cX6_play 5 = .ok (.aload_n 0, 1) := by decide +kernel
theorem dX6_play_6 : decode cX6_play 6 = .ok (.getfield 44, 3) := by decide +kernel
theorem dX6_play_9 : decode cX6_play 9 = .ok (.getfield 159, 3) := by decide +kernel
theorem dX6_play_12 : decode cX6_play 12 = .ok (.if_icmp .ge 12, 3) := by decide +kernel
theorem dX6_play_15 : decode cX6_play 15 = .ok (.iload_n 2, 1) := by decide +kernel
theorem dX6_play_16 : decode cX6_play 16 = .ok (.ifCond .lt 8, 3) := by decide +kernel
theorem dX6_play_19 : decode cX6_play 19 = .ok (.iload_n 2, 1) := by decide +kernel
theorem dX6_play_20 : decode cX6_play 20 = .ok (.iconst 3, 1) := by decide +kernel
theorem dX6_play_21 : decode cX6_play 21 = .ok (.if_icmp .le 13, 3) := by decide +kernel
theorem dX6_play_24 : decode cX6_play 24 = .ok (.new 162, 3) := by decide +kernel
theorem dX6_play_27 : decode cX6_play 27 = .ok (.dup, 1) := by decide +kernel
theorem dX6_play_28 : decode cX6_play 28 = .ok (.ldc 164, 2) := by decide +kernel
theorem dX6_play_30 : decode cX6_play 30 = .ok (.invokespecial 166, 3) := by decide +kernel
theorem dX6_play_33 : decode cX6_play 33 = .ok (.athrow, 1) := by decide +kernel
theorem dX6_play_34 : decode cX6_play 34 = .ok (.iload_n 2, 1) := by decide +kernel
theorem dX6_play_35 : decode cX6_play 35 = .ok (.tableswitch 55 0 2 #[25, 35, 45], 25) := by decide +kernel
theorem dX6_play_60 : decode cX6_play 60 = .ok (.aload_n 0, 1) := by decide +kernel
theorem dX6_play_61 : decode cX6_play 61 = .ok (.getfield 44, 3) := by decide +kernel
theorem dX6_play_64 : decode cX6_play 64 = .ok (.getfield 167, 3) := by decide +kernel
theorem dX6_play_67 : decode cX6_play 67 = .ok (.iload_n 1, 1) := by decide +kernel
theorem dX6_play_68 : decode cX6_play 68 = .ok (.iaload, 1) := by decide +kernel
theorem dX6_play_69 : decode cX6_play 69 = .ok (.ireturn, 1) := by decide +kernel
theorem dX6_play_70 : decode cX6_play 70 = .ok (.aload_n 0, 1) := by decide +kernel
theorem dX6_play_71 : decode cX6_play 71 = .ok (.getfield 44, 3) := by decide +kernel
theorem dX6_play_74 : decode cX6_play 74 = .ok (.getfield 170, 3) := by decide +kernel
theorem dX6_play_77 : decode cX6_play 77 = .ok (.iload_n 1, 1) := by decide +kernel
theorem dX6_play_78 : decode cX6_play 78 = .ok (.iaload, 1) := by decide +kernel
theorem dX6_play_79 : decode cX6_play 79 = .ok (.ireturn, 1) := by decide +kernel
theorem dX6_play_80 : decode cX6_play 80 = .ok (.aload_n 0, 1) := by decide +kernel
theorem dX6_play_81 : decode cX6_play 81 = .ok (.getfield 44, 3) := by decide +kernel
theorem dX6_play_84 : decode cX6_play 84 = .ok (.getfield 173, 3) := by decide +kernel
theorem dX6_play_87 : decode cX6_play 87 = .ok (.iload_n 1, 1) := by decide +kernel
theorem dX6_play_88 : decode cX6_play 88 = .ok (.iaload, 1) := by decide +kernel
theorem dX6_play_89 : decode cX6_play 89 = .ok (.ireturn, 1) := by decide +kernel
theorem dX6_play_90 : decode cX6_play 90 = .ok (.aload_n 0, 1) := by decide +kernel
theorem dX6_play_91 : decode cX6_play 91 = .ok (.getfield 44, 3) := by decide +kernel
theorem dX6_play_94 : decode cX6_play 94 = .ok (.getfield 176, 3) := by decide +kernel
theorem dX6_play_97 : decode cX6_play 97 = .ok (.iload_n 1, 1) := by decide +kernel
theorem dX6_play_98 : decode cX6_play 98 = .ok (.iaload, 1) := by decide +kernel
theorem dX6_play_99 : decode cX6_play 99 = .ok (.ireturn, 1) := by decide +kernel
theorem dX6_left_0 : decode cX6_left 0 = .ok (.iload_n 1, 1) := by decide +kernel
theorem dX6_left_1 : decode cX6_left 1 = .ok (.ifCond .lt 31, 3) := by decide +kernel
theorem dX6_left_4 : decode cX6_left 4 = .ok (.iload_n 1, 1) := by decide +kernel
theorem dX6_left_5 : decode cX6_left 5 = .ok (.aload_n 0, 1) := by decide +kernel
theorem dX6_left_6 : decode cX6_left 6 = .ok (.getfield 44, 3) := by decide +kernel
theorem dX6_left_9 : decode cX6_left 9 = .ok (.getfield 134, 3) := by decide +kernel
theorem dX6_left_12 : decode cX6_left 12 = .ok (.if_icmp .ge 20, 3) := by decide +kernel
theorem dX6_left_15 : decode cX6_left 15 = .ok (.iload_n 2, 1) := by decide +kernel
theorem dX6_left_16 : decode cX6_left 16 = .ok (.ifCond .lt 16, 3) := by decide +kernel
theorem dX6_left_19 : decode cX6_left 19 = .ok (.iload_n 2, 1) := by decide +kernel
theorem dX6_left_20 : decode cX6_left 20 = .ok (.aload_n 0, 1) := by decide +kernel
theorem dX6_left_21 : decode cX6_left 21 = .ok (.getfield 44, 3) := by decide +kernel
theorem dX6_left_24 : decode cX6_left 24 = .ok (.getfield 179, 3) := by decide +kernel
theorem dX6_left_27 : decode cX6_left 27 = .ok (.iload_n 1, 1) := by decide +kernel
theorem dX6_left_28 : decode cX6_left 28 = .ok (.iaload, 1) := by decide +kernel
theorem dX6_left_29 : decode cX6_left 29 = .ok (.if_icmp .lt 13, 3) := by decide +kernel
theorem dX6_left_32 : decode cX6_left 32 = .ok (.new 162, 3) := by decide +kernel
theorem dX6_left_35 : decode cX6_left 35 = .ok (.dup, 1) := by decide +kernel
theorem dX6_left_36 : decode cX6_left 36 = .ok (.ldc 182, 2) := by decide +kernel
theorem dX6_left_38 : decode cX6_left 38 = .ok (.invokespecial 166, 3) := by decide +kernel
theorem dX6_left_41 : decode cX6_left 41 = .ok (.athrow, 1) := by decide +kernel
theorem dX6_left_42 : decode cX6_left 42 = .ok (.aload_n 0, 1) := by decide +kernel
theorem dX6_left_43 : decode cX6_left 43 = .ok (.getfield 44, 3) := by decide +kernel
theorem dX6_left_46 : decode cX6_left 46 = .ok (.getfield 184, 3) := by decide +kernel
theorem dX6_left_49 : decode cX6_left 49 = .ok (.iload_n 1, 1) := by decide +kernel
theorem dX6_left_50 : decode cX6_left 50 = .ok (.bipush 8, 2) := by decide +kernel
theorem dX6_left_52 : decode cX6_left 52 = .ok (.imul, 1) := by decide +kernel
theorem dX6_left_53 : decode cX6_left 53 = .ok (.iload_n 2, 1) := by decide +kernel
theorem dX6_left_54 : decode cX6_left 54 = .ok (.iadd, 1) := by decide +kernel
theorem dX6_left_55 : decode cX6_left 55 = .ok (.iaload, 1) := by decide +kernel
theorem dX6_left_56 : decode cX6_left 56 = .ok (.ireturn, 1) := by decide +kernel
theorem dX6_at_0 : decode cX6_at 0 = .ok (.iconst 0, 1) := by decide +kernel
theorem dX6_at_1 : decode cX6_at 1 = .ok (.istore_n 2, 1) := by decide +kernel
theorem dX6_at_2 : decode cX6_at 2 = .ok (.iload_n 2, 1) := by decide +kernel
theorem dX6_at_3 : decode cX6_at 3 = .ok (.aload_n 0, 1) := by decide +kernel
theorem dX6_at_4 : decode cX6_at 4 = .ok (.getfield 44, 3) := by decide +kernel
theorem dX6_at_7 : decode cX6_at 7 = .ok (.getfield 159, 3) := by decide +kernel
theorem dX6_at_10 : decode cX6_at 10 = .ok (.if_icmp .ge 33, 3) := by decide +kernel
theorem dX6_at_13 : decode cX6_at 13 = .ok (.iload_n 1, 1) := by decide +kernel
theorem dX6_at_14 : decode cX6_at 14 = .ok (.aload_n 0, 1) := by decide +kernel
theorem dX6_at_15 : decode cX6_at 15 = .ok (.getfield 44, 3) := by decide +kernel
theorem dX6_at_18 : decode cX6_at 18 = .ok (.getfield 170, 3) := by decide +kernel
theorem dX6_at_21 : decode cX6_at 21 = .ok (.iload_n 2, 1) := by decide +kernel
theorem dX6_at_22 : decode cX6_at 22 = .ok (.iaload, 1) := by decide +kernel
theorem dX6_at_23 : decode cX6_at 23 = .ok (.if_icmp .lt 14, 3) := by decide +kernel
theorem dX6_at_26 : decode cX6_at 26 = .ok (.iload_n 1, 1) := by decide +kernel
theorem dX6_at_27 : decode cX6_at 27 = .ok (.aload_n 0, 1) := by decide +kernel
theorem dX6_at_28 : decode cX6_at 28 = .ok (.iload_n 2, 1) := by decide +kernel
theorem dX6_at_29 : decode cX6_at 29 = .ok (.invokevirtual 187, 3) := by decide +kernel
theorem dX6_at_32 : decode cX6_at 32 = .ok (.if_icmp .ge 5, 3) := by decide +kernel
theorem dX6_at_35 : decode cX6_at 35 = .ok (.iload_n 2, 1) := by decide +kernel
theorem dX6_at_36 : decode cX6_at 36 = .ok (.ireturn, 1) := by decide +kernel
theorem dX6_at_37 : decode cX6_at 37 = .ok (.iinc 2 1, 3) := by decide +kernel
theorem dX6_at_40 : decode cX6_at 40 = .ok (.goto (-38), 3) := by decide +kernel
theorem dX6_at_43 : decode cX6_at 43 = .ok (.iconst (-1), 1) := by decide +kernel
theorem dX6_at_44 : decode cX6_at 44 = .ok (.ireturn, 1) := by decide +kernel
theorem dX6_rights_0 : decode cX6_rights 0 = .ok (.iload_n 1, 1) := by decide +kernel
theorem dX6_rights_1 : decode cX6_rights 1 = .ok (.iconst 0, 1) := by decide +kernel
theorem dX6_rights_2 : decode cX6_rights 2 = .ok (.bipush 11, 2) := by decide +kernel
theorem dX6_rights_4 : decode cX6_rights 4 = .ok (.invokestatic 101, 3) := by decide +kernel
theorem dX6_rights_7 : decode cX6_rights 7 = .ok (.ifCond .eq 8, 3) := by decide +kernel
theorem dX6_rights_10 : decode cX6_rights 10 = .ok (.iload_n 3, 1) := by decide +kernel
theorem dX6_rights_11 : decode cX6_rights 11 = .ok (.iload_n 2, 1) := by decide +kernel
theorem dX6_rights_12 : decode cX6_rights 12 = .ok (.if_icmp .ge 5, 3) := by decide +kernel
theorem dX6_rights_15 : decode cX6_rights 15 = .ok (.iconst (-1), 1) := by decide +kernel
theorem dX6_rights_16 : decode cX6_rights 16 = .ok (.ireturn, 1) := by decide +kernel
theorem dX6_rights_17 : decode cX6_rights 17 = .ok (.iconst 0, 1) := by decide +kernel
theorem dX6_rights_18 : decode cX6_rights 18 = .ok (.istore 4, 2) := by decide +kernel
theorem dX6_rights_20 : decode cX6_rights 20 = .ok (.iconst 0, 1) := by decide +kernel
theorem dX6_rights_21 : decode cX6_rights 21 = .ok (.istore 5, 2) := by decide +kernel
theorem dX6_rights_23 : decode cX6_rights 23 = .ok (.iload 5, 2) := by decide +kernel
theorem dX6_rights_25 : decode cX6_rights 25 = .ok (.aload_n 0, 1) := by decide +kernel
theorem dX6_rights_26 : decode cX6_rights 26 = .ok (.getfield 44, 3) := by decide +kernel
theorem dX6_rights_29 : decode cX6_rights 29 = .ok (.getfield 159, 3) := by decide +kernel
theorem dX6_rights_32 : decode cX6_rights 32 = .ok (.if_icmp .ge 44, 3) := by decide +kernel
theorem dX6_rights_35 : decode cX6_rights 35 = .ok (.aload_n 0, 1) := by decide +kernel
theorem dX6_rights_36 : decode cX6_rights 36 = .ok (.getfield 37, 3) := by decide +kernel
theorem dX6_rights_39 : decode cX6_rights 39 = .ok (.getfield 190, 3) := by decide +kernel
theorem dX6_rights_42 : decode cX6_rights 42 = .ok (.aload_n 0, 1) := by decide +kernel
theorem dX6_rights_43 : decode cX6_rights 43 = .ok (.getfield 44, 3) := by decide +kernel
theorem dX6_rights_46 : decode cX6_rights 46 = .ok (.getfield 167, 3) := by decide +kernel
theorem dX6_rights_49 : decode cX6_rights 49 = .ok (.iload 5, 2) := by decide +kernel
theorem dX6_rights_51 : decode cX6_rights 51 = .ok (.iaload, 1) := by decide +kernel
theorem dX6_rights_52 : decode cX6_rights 52 = .ok (.iaload, 1) := by decide +kernel
theorem dX6_rights_53 : decode cX6_rights 53 = .ok (.iload_n 1, 1) := by decide +kernel
theorem dX6_rights_54 : decode cX6_rights 54 = .ok (.if_icmp .ne 16, 3) := by decide +kernel
theorem dX6_rights_57 : decode cX6_rights 57 = .ok (.iload 4, 2) := by decide +kernel
theorem dX6_rights_59 : decode cX6_rights 59 = .ok (.aload_n 0, 1) := by decide +kernel
theorem dX6_rights_60 : decode cX6_rights 60 = .ok (.iload 5, 2) := by decide +kernel
theorem dX6_rights_62 : decode cX6_rights 62 = .ok (.iload_n 2, 1) := by decide +kernel
theorem dX6_rights_63 : decode cX6_rights 63 = .ok (.iload_n 3, 1) := by decide +kernel
theorem dX6_rights_64 : decode cX6_rights 64 = .ok (.invokevirtual 193, 3) := by decide +kernel
theorem dX6_rights_67 : decode cX6_rights 67 = .ok (.iadd, 1) := by decide +kernel
theorem dX6_rights_68 : decode cX6_rights 68 = .ok (.istore 4, 2) := by decide +kernel
theorem dX6_rights_70 : decode cX6_rights 70 = .ok (.iinc 5 1, 3) := by decide +kernel
theorem dX6_rights_73 : decode cX6_rights 73 = .ok (.goto (-50), 3) := by decide +kernel
theorem dX6_rights_76 : decode cX6_rights 76 = .ok (.iload 4, 2) := by decide +kernel
theorem dX6_rights_78 : decode cX6_rights 78 = .ok (.ireturn, 1) := by decide +kernel
theorem dX6_items_0 : decode cX6_items 0 = .ok (.iload_n 1, 1) := by decide +kernel
theorem dX6_items_1 : decode cX6_items 1 = .ok (.invokestatic 77, 3) := by decide +kernel
theorem dX6_items_4 : decode cX6_items 4 = .ok (.ifCond .ne 13, 3) := by decide +kernel
theorem dX6_items_7 : decode cX6_items 7 = .ok (.new 81, 3) := by decide +kernel
theorem dX6_items_10 : decode cX6_items 10 = .ok (.dup, 1) := by decide +kernel
theorem dX6_items_11 : decode cX6_items 11 = .ok (.ldc 83, 2) := by decide +kernel
theorem dX6_items_13 : decode cX6_items 13 = .ok (.invokespecial 85, 3) := by decide +kernel
theorem dX6_items_16 : decode cX6_items 16 = .ok (.athrow, 1) := by decide +kernel
theorem dX6_items_17 : decode cX6_items 17 = .ok (.aload_n 0, 1) := by decide +kernel
theorem dX6_items_18 : decode cX6_items 18 = .ok (.getfield 25, 3) := by decide +kernel
theorem dX6_items_21 : decode cX6_items 21 = .ok (.iload_n 1, 1) := by decide +kernel
theorem dX6_items_22 : decode cX6_items 22 = .ok (.aaload, 1) := by decide +kernel
theorem dX6_items_23 : decode cX6_items 23 = .ok (.getfield 93, 3) := by decide +kernel
theorem dX6_items_26 : decode cX6_items 26 = .ok (.ireturn, 1) := by decide +kernel
theorem dX6_count_0 : decode cX6_count 0 = .ok (.iload_n 1, 1) := by decide +kernel
theorem dX6_count_1 : decode cX6_count 1 = .ok (.tableswitch 99 0 6 #[43, 51, 59, 67, 75, 83, 91], 43) := by decide +kernel
theorem dX6_count_44 : decode cX6_count 44 = .ok (.aload_n 0, 1) := by decide +kernel
theorem dX6_count_45 : decode cX6_count 45 = .ok (.getfield 44, 3) := by decide +kernel
theorem dX6_count_48 : decode cX6_count 48 = .ok (.getfield 134, 3) := by decide +kernel
theorem dX6_count_51 : decode cX6_count 51 = .ok (.ireturn, 1) := by decide +kernel
theorem dX6_count_52 : decode cX6_count 52 = .ok (.aload_n 0, 1) := by decide +kernel
theorem dX6_count_53 : decode cX6_count 53 = .ok (.getfield 37, 3) := by decide +kernel
theorem dX6_count_56 : decode cX6_count 56 = .ok (.getfield 105, 3) := by decide +kernel
theorem dX6_count_59 : decode cX6_count 59 = .ok (.ireturn, 1) := by decide +kernel
theorem dX6_count_60 : decode cX6_count 60 = .ok (.aload_n 0, 1) := by decide +kernel
theorem dX6_count_61 : decode cX6_count 61 = .ok (.getfield 44, 3) := by decide +kernel
theorem dX6_count_64 : decode cX6_count 64 = .ok (.getfield 159, 3) := by decide +kernel
theorem dX6_count_67 : decode cX6_count 67 = .ok (.ireturn, 1) := by decide +kernel
theorem dX6_count_68 : decode cX6_count 68 = .ok (.aload_n 0, 1) := by decide +kernel
theorem dX6_count_69 : decode cX6_count 69 = .ok (.getfield 44, 3) := by decide +kernel
theorem dX6_count_72 : decode cX6_count 72 = .ok (.getfield 197, 3) := by decide +kernel
theorem dX6_count_75 : decode cX6_count 75 = .ok (.ireturn, 1) := by decide +kernel
theorem dX6_count_76 : decode cX6_count 76 = .ok (.aload_n 0, 1) := by decide +kernel
theorem dX6_count_77 : decode cX6_count 77 = .ok (.getfield 44, 3) := by decide +kernel
theorem dX6_count_80 : decode cX6_count 80 = .ok (.getfield 200, 3) := by decide +kernel
theorem dX6_count_83 : decode cX6_count 83 = .ok (.ireturn, 1) := by decide +kernel
theorem dX6_count_84 : decode cX6_count 84 = .ok (.aload_n 0, 1) := by decide +kernel
theorem dX6_count_85 : decode cX6_count 85 = .ok (.getfield 37, 3) := by decide +kernel
theorem dX6_count_88 : decode cX6_count 88 = .ok (.invokevirtual 203, 3) := by decide +kernel
theorem dX6_count_91 : decode cX6_count 91 = .ok (.ireturn, 1) := by decide +kernel
theorem dX6_count_92 : decode cX6_count 92 = .ok (.aload_n 0, 1) := by decide +kernel
theorem dX6_count_93 : decode cX6_count 93 = .ok (.getfield 10, 3) := by decide +kernel
theorem dX6_count_96 : decode cX6_count 96 = .ok (.getfield 63, 3) := by decide +kernel
theorem dX6_count_99 : decode cX6_count 99 = .ok (.ireturn, 1) := by decide +kernel
theorem dX6_count_100 : decode cX6_count 100 = .ok (.iconst (-1), 1) := by decide +kernel
theorem dX6_count_101 : decode cX6_count 101 = .ok (.ireturn, 1) := by decide +kernel
theorem dX6_isClock_0 : decode cX6_isClock 0 = .ok (.iload_n 0, 1) := by decide +kernel
theorem dX6_isClock_1 : decode cX6_isClock 1 = .ok (.iconst 0, 1) := by decide +kernel
theorem dX6_isClock_2 : decode cX6_isClock 2 = .ok (.iconst 5, 1) := by decide +kernel
theorem dX6_isClock_3 : decode cX6_isClock 3 = .ok (.invokestatic 101, 3) := by decide +kernel
theorem dX6_isClock_6 : decode cX6_isClock 6 = .ok (.ireturn, 1) := by decide +kernel
theorem dX6_isWithin_0 : decode cX6_isWithin 0 = .ok (.iload_n 0, 1) := by decide +kernel
theorem dX6_isWithin_1 : decode cX6_isWithin 1 = .ok (.iload_n 1, 1) := by decide +kernel
theorem dX6_isWithin_2 : decode cX6_isWithin 2 = .ok (.if_icmp .lt 12, 3) := by decide +kernel
theorem dX6_isWithin_5 : decode cX6_isWithin 5 = .ok (.iload_n 0, 1) := by decide +kernel
theorem dX6_isWithin_6 : decode cX6_isWithin 6 = .ok (.iload_n 2, 1) := by decide +kernel
theorem dX6_isWithin_7 : decode cX6_isWithin 7 = .ok (.if_icmp .gt 7, 3) := by decide +kernel
theorem dX6_isWithin_10 : decode cX6_isWithin 10 = .ok (.iconst 1, 1) := by decide +kernel
theorem dX6_isWithin_11 : decode cX6_isWithin 11 = .ok (.goto 4, 3) := by decide +kernel
theorem dX6_isWithin_14 : decode cX6_isWithin 14 = .ok (.iconst 0, 1) := by decide +kernel
theorem dX6_isWithin_15 : decode cX6_isWithin 15 = .ok (.ireturn, 1) := by decide +kernel
theorem dX6_fillStretch_0 : decode cX6_fillStretch 0 = .ok (.aload_n 1, 1) := by decide +kernel
theorem dX6_fillStretch_1 : decode cX6_fillStretch 1 = .ok (.getfield 144, 3) := by decide +kernel
theorem dX6_fillStretch_4 : decode cX6_fillStretch 4 = .ok (.iload_n 2, 1) := by decide +kernel
theorem dX6_fillStretch_5 : decode cX6_fillStretch 5 = .ok (.iaload, 1) := by decide +kernel
theorem dX6_fillStretch_6 : decode cX6_fillStretch 6 = .ok (.istore 4, 2) := by decide +kernel
theorem dX6_fillStretch_8 : decode cX6_fillStretch 8 = .ok (.aload_n 0, 1) := by decide +kernel
theorem dX6_fillStretch_9 : decode cX6_fillStretch 9 = .ok (.getfield 51, 3) := by decide +kernel
theorem dX6_fillStretch_12 : decode cX6_fillStretch 12 = .ok (.aload_n 0, 1) := by decide +kernel
theorem dX6_fillStretch_13 : decode cX6_fillStretch 13 = .ok (.getfield 37, 3) := by decide +kernel
theorem dX6_fillStretch_16 : decode cX6_fillStretch 16 = .ok (.iload_n 3, 1) := by decide +kernel
theorem dX6_fillStretch_17 : decode cX6_fillStretch 17 = .ok (.iload 4, 2) := by decide +kernel
theorem dX6_fillStretch_19 : decode cX6_fillStretch 19 = .ok (.aload_n 1, 1) := by decide +kernel
theorem dX6_fillStretch_20 : decode cX6_fillStretch 20 = .ok (.getfield 207, 3) := by decide +kernel
theorem dX6_fillStretch_23 : decode cX6_fillStretch 23 = .ok (.iload_n 2, 1) := by decide +kernel
theorem dX6_fillStretch_24 : decode cX6_fillStretch 24 = .ok (.iaload, 1) := by decide +kernel
theorem dX6_fillStretch_25 : decode cX6_fillStretch 25 = .ok (.aload_n 1, 1) := by decide +kernel
theorem dX6_fillStretch_26 : decode cX6_fillStretch 26 = .ok (.getfield 210, 3) := by decide +kernel
theorem dX6_fillStretch_29 : decode cX6_fillStretch 29 = .ok (.iload_n 2, 1) := by decide +kernel
theorem dX6_fillStretch_30 : decode cX6_fillStretch 30 = .ok (.iaload, 1) := by decide +kernel
theorem dX6_fillStretch_31 : decode cX6_fillStretch 31 = .ok (.invokevirtual 213, 3) := by decide +kernel
theorem dX6_fillStretch_34 : decode cX6_fillStretch 34 = .ok (.aload_n 0, 1) := by decide +kernel
theorem dX6_fillStretch_35 : decode cX6_fillStretch 35 = .ok (.getfield 51, 3) := by decide +kernel
theorem dX6_fillStretch_38 : decode cX6_fillStretch 38 = .ok (.aload_n 0, 1) := by decide +kernel
theorem dX6_fillStretch_39 : decode cX6_fillStretch 39 = .ok (.getfield 37, 3) := by decide +kernel
theorem dX6_fillStretch_42 : decode cX6_fillStretch 42 = .ok (.iload_n 3, 1) := by decide +kernel
theorem dX6_fillStretch_43 : decode cX6_fillStretch 43 = .ok (.aload_n 0, 1) := by decide +kernel
theorem dX6_fillStretch_44 : decode cX6_fillStretch 44 = .ok (.iload_n 3, 1) := by decide +kernel
theorem dX6_fillStretch_45 : decode cX6_fillStretch 45 = .ok (.invokevirtual 217, 3) := by decide +kernel
theorem dX6_fillStretch_48 : decode cX6_fillStretch 48 = .ok (.invokevirtual 220, 3) := by decide +kernel
theorem dX6_fillStretch_51 : decode cX6_fillStretch 51 = .ok (.iload_n 3, 1) := by decide +kernel
theorem dX6_fillStretch_52 : decode cX6_fillStretch 52 = .ok (.istore 5, 2) := by decide +kernel
theorem dX6_fillStretch_54 : decode cX6_fillStretch 54 = .ok (.iconst 0, 1) := by decide +kernel
theorem dX6_fillStretch_55 : decode cX6_fillStretch 55 = .ok (.istore 6, 2) := by decide +kernel
theorem dX6_fillStretch_57 : decode cX6_fillStretch 57 = .ok (.iload 6, 2) := by decide +kernel
theorem dX6_fillStretch_59 : decode cX6_fillStretch 59 = .ok (.aload_n 0, 1) := by decide +kernel
theorem dX6_fillStretch_60 : decode cX6_fillStretch 60 = .ok (.getfield 51, 3) := by decide +kernel
theorem dX6_fillStretch_63 : decode cX6_fillStretch 63 = .ok (.getfield 224, 3) := by decide +kernel
theorem dX6_fillStretch_66 : decode cX6_fillStretch 66 = .ok (.if_icmp .ge 59, 3) := by decide +kernel
theorem dX6_fillStretch_69 : decode cX6_fillStretch 69 = .ok (.aload_n 0, 1) := by decide +kernel
theorem dX6_fillStretch_70 : decode cX6_fillStretch 70 = .ok (.getfield 51, 3) := by decide +kernel
theorem dX6_fillStretch_73 : decode cX6_fillStretch 73 = .ok (.getfield 227, 3) := by decide +kernel
theorem dX6_fillStretch_76 : decode cX6_fillStretch 76 = .ok (.iload 6, 2) := by decide +kernel
theorem dX6_fillStretch_78 : decode cX6_fillStretch 78 = .ok (.iaload, 1) := by decide +kernel
theorem dX6_fillStretch_79 : decode cX6_fillStretch 79 = .ok (.istore 7, 2) := by decide +kernel
theorem dX6_fillStretch_81 : decode cX6_fillStretch 81 = .ok (.aload_n 0, 1) := by decide +kernel
theorem dX6_fillStretch_82 : decode cX6_fillStretch 82 = .ok (.getfield 37, 3) := by decide +kernel
theorem dX6_fillStretch_85 : decode cX6_fillStretch 85 = .ok (.iload 7, 2) := by decide +kernel
theorem dX6_fillStretch_87 : decode cX6_fillStretch 87 = .ok (.iload 5, 2) := by decide +kernel
theorem dX6_fillStretch_89 : decode cX6_fillStretch 89 = .ok (.invokevirtual 230, 3) := by decide +kernel
theorem dX6_fillStretch_92 : decode cX6_fillStretch 92 = .ok (.aload_n 0, 1) := by decide +kernel
theorem dX6_fillStretch_93 : decode cX6_fillStretch 93 = .ok (.getfield 44, 3) := by decide +kernel
theorem dX6_fillStretch_96 : decode cX6_fillStretch 96 = .ok (.iload 7, 2) := by decide +kernel
theorem dX6_fillStretch_98 : decode cX6_fillStretch 98 = .ok (.iload 5, 2) := by decide +kernel
theorem dX6_fillStretch_100 : decode cX6_fillStretch 100 = .ok (.iload_n 2, 1) := by decide +kernel
theorem dX6_fillStretch_101 : decode cX6_fillStretch 101 = .ok (.invokevirtual 233, 3) := by decide +kernel
theorem dX6_fillStretch_104 : decode cX6_fillStretch 104 = .ok (.iload 5, 2) := by decide +kernel
theorem dX6_fillStretch_106 : decode cX6_fillStretch 106 = .ok (.aload_n 0, 1) := by decide +kernel
theorem dX6_fillStretch_107 : decode cX6_fillStretch 107 = .ok (.getfield 37, 3) := by decide +kernel
theorem dX6_fillStretch_110 : decode cX6_fillStretch 110 = .ok (.getfield 237, 3) := by decide +kernel
theorem dX6_fillStretch_113 : decode cX6_fillStretch 113 = .ok (.iload 7, 2) := by decide +kernel
theorem dX6_fillStretch_115 : decode cX6_fillStretch 115 = .ok (.iaload, 1) := by decide +kernel
theorem dX6_fillStretch_116 : decode cX6_fillStretch 116 = .ok (.iadd, 1) := by decide +kernel
theorem dX6_fillStretch_117 : decode cX6_fillStretch 117 = .ok (.istore 5, 2) := by decide +kernel
theorem dX6_fillStretch_119 : decode cX6_fillStretch 119 = .ok (.iinc 6 1, 3) := by decide +kernel
theorem dX6_fillStretch_122 : decode cX6_fillStretch 122 = .ok (.goto (-65), 3) := by decide +kernel
theorem dX6_fillStretch_125 : decode cX6_fillStretch 125 = .ok (.aload_n 0, 1) := by decide +kernel
theorem dX6_fillStretch_126 : decode cX6_fillStretch 126 = .ok (.getfield 44, 3) := by decide +kernel
theorem dX6_fillStretch_129 : decode cX6_fillStretch 129 = .ok (.iload_n 2, 1) := by decide +kernel
theorem dX6_fillStretch_130 : decode cX6_fillStretch 130 = .ok (.iload_n 3, 1) := by decide +kernel
theorem dX6_fillStretch_131 : decode cX6_fillStretch 131 = .ok (.iload 4, 2) := by decide +kernel
theorem dX6_fillStretch_133 : decode cX6_fillStretch 133 = .ok (.iadd, 1) := by decide +kernel
theorem dX6_fillStretch_134 : decode cX6_fillStretch 134 = .ok (.iload 5, 2) := by decide +kernel
theorem dX6_fillStretch_136 : decode cX6_fillStretch 136 = .ok (.isub, 1) := by decide +kernel
theorem dX6_fillStretch_137 : decode cX6_fillStretch 137 = .ok (.aload_n 0, 1) := by decide +kernel
theorem dX6_fillStretch_138 : decode cX6_fillStretch 138 = .ok (.getfield 51, 3) := by decide +kernel
theorem dX6_fillStretch_141 : decode cX6_fillStretch 141 = .ok (.getfield 224, 3) := by decide +kernel
theorem dX6_fillStretch_144 : decode cX6_fillStretch 144 = .ok (.ifCond .ne 7, 3) := by decide +kernel
theorem dX6_fillStretch_147 : decode cX6_fillStretch 147 = .ok (.iconst 1, 1) := by decide +kernel
theorem dX6_fillStretch_148 : decode cX6_fillStretch 148 = .ok (.goto 4, 3) := by decide +kernel
theorem dX6_fillStretch_151 : decode cX6_fillStretch 151 = .ok (.iconst 0, 1) := by decide +kernel
theorem dX6_fillStretch_152 : decode cX6_fillStretch 152 = .ok (.invokevirtual 238, 3) := by decide +kernel
theorem dX6_fillStretch_155 : decode cX6_fillStretch 155 = .ok (.aload_n 0, 1) := by decide +kernel
theorem dX6_fillStretch_156 : decode cX6_fillStretch 156 = .ok (.getfield 51, 3) := by decide +kernel
theorem dX6_fillStretch_159 : decode cX6_fillStretch 159 = .ok (.getfield 224, 3) := by decide +kernel
theorem dX6_fillStretch_162 : decode cX6_fillStretch 162 = .ok (.ifCond .le 7, 3) := by decide +kernel
theorem dX6_fillStretch_165 : decode cX6_fillStretch 165 = .ok (.iconst 1, 1) := by decide +kernel
theorem dX6_fillStretch_166 : decode cX6_fillStretch 166 = .ok (.goto 4, 3) := by decide +kernel
theorem dX6_fillStretch_169 : decode cX6_fillStretch 169 = .ok (.iconst 0, 1) := by decide +kernel
theorem dX6_fillStretch_170 : decode cX6_fillStretch 170 = .ok (.ireturn, 1) := by decide +kernel
theorem dX6_keyAhead_0 : decode cX6_keyAhead 0 = .ok (.aload_n 0, 1) := by decide +kernel
theorem dX6_keyAhead_1 : decode cX6_keyAhead 1 = .ok (.getfield 44, 3) := by decide +kernel
theorem dX6_keyAhead_4 : decode cX6_keyAhead 4 = .ok (.getfield 159, 3) := by decide +kernel
theorem dX6_keyAhead_7 : decode cX6_keyAhead 7 = .ok (.iconst 1, 1) := by decide +kernel
theorem dX6_keyAhead_8 : decode cX6_keyAhead 8 = .ok (.isub, 1) := by decide +kernel
theorem dX6_keyAhead_9 : decode cX6_keyAhead 9 = .ok (.istore_n 2, 1) := by decide +kernel
theorem dX6_keyAhead_10 : decode cX6_keyAhead 10 = .ok (.iload_n 2, 1) := by decide +kernel
theorem dX6_keyAhead_11 : decode cX6_keyAhead 11 = .ok (.ifCond .lt 12, 3) := by decide +kernel
theorem dX6_keyAhead_14 : decode cX6_keyAhead 14 = .ok (.aload_n 0, 1) := by decide +kernel
theorem dX6_keyAhead_15 : decode cX6_keyAhead 15 = .ok (.iload_n 2, 1) := by decide +kernel
theorem dX6_keyAhead_16 : decode cX6_keyAhead 16 = .ok (.invokevirtual 187, 3) := by decide +kernel
theorem dX6_keyAhead_19 : decode cX6_keyAhead 19 = .ok (.iload_n 1, 1) := by decide +kernel
theorem dX6_keyAhead_20 : decode cX6_keyAhead 20 = .ok (.if_icmp .eq 5, 3) := by decide +kernel
theorem dX6_keyAhead_23 : decode cX6_keyAhead 23 = .ok (.iconst (-1), 1) := by decide +kernel
theorem dX6_keyAhead_24 : decode cX6_keyAhead 24 = .ok (.ireturn, 1) := by decide +kernel
theorem dX6_keyAhead_25 : decode cX6_keyAhead 25 = .ok (.aload_n 0, 1) := by decide +kernel
theorem dX6_keyAhead_26 : decode cX6_keyAhead 26 = .ok (.getfield 37, 3) := by decide +kernel
theorem dX6_keyAhead_29 : decode cX6_keyAhead 29 = .ok (.getfield 242, 3) := by decide +kernel
theorem dX6_keyAhead_32 : decode cX6_keyAhead 32 = .ok (.aload_n 0, 1) := by decide +kernel
theorem dX6_keyAhead_33 : decode cX6_keyAhead 33 = .ok (.getfield 44, 3) := by decide +kernel
theorem dX6_keyAhead_36 : decode cX6_keyAhead 36 = .ok (.getfield 167, 3) := by decide +kernel
theorem dX6_keyAhead_39 : decode cX6_keyAhead 39 = .ok (.iload_n 2, 1) := by decide +kernel
theorem dX6_keyAhead_40 : decode cX6_keyAhead 40 = .ok (.iaload, 1) := by decide +kernel
theorem dX6_keyAhead_41 : decode cX6_keyAhead 41 = .ok (.iaload, 1) := by decide +kernel
theorem dX6_keyAhead_42 : decode cX6_keyAhead 42 = .ok (.ireturn, 1) := by decide +kernel
theorem dX6_endOfPlay_0 : decode cX6_endOfPlay 0 = .ok (.aload_n 0, 1) := by decide +kernel
theorem dX6_endOfPlay_1 : decode cX6_endOfPlay 1 = .ok (.getfield 44, 3) := by decide +kernel
theorem dX6_endOfPlay_4 : decode cX6_endOfPlay 4 = .ok (.getfield 170, 3) := by decide +kernel
theorem dX6_endOfPlay_7 : decode cX6_endOfPlay 7 = .ok (.iload_n 1, 1) := by decide +kernel
theorem dX6_endOfPlay_8 : decode cX6_endOfPlay 8 = .ok (.iaload, 1) := by decide +kernel
theorem dX6_endOfPlay_9 : decode cX6_endOfPlay 9 = .ok (.aload_n 0, 1) := by decide +kernel
theorem dX6_endOfPlay_10 : decode cX6_endOfPlay 10 = .ok (.getfield 37, 3) := by decide +kernel
theorem dX6_endOfPlay_13 : decode cX6_endOfPlay 13 = .ok (.getfield 237, 3) := by decide +kernel
theorem dX6_endOfPlay_16 : decode cX6_endOfPlay 16 = .ok (.aload_n 0, 1) := by decide +kernel
theorem dX6_endOfPlay_17 : decode cX6_endOfPlay 17 = .ok (.getfield 44, 3) := by decide +kernel
theorem dX6_endOfPlay_20 : decode cX6_endOfPlay 20 = .ok (.getfield 167, 3) := by decide +kernel
theorem dX6_endOfPlay_23 : decode cX6_endOfPlay 23 = .ok (.iload_n 1, 1) := by decide +kernel
theorem dX6_endOfPlay_24 : decode cX6_endOfPlay 24 = .ok (.iaload, 1) := by decide +kernel
theorem dX6_endOfPlay_25 : decode cX6_endOfPlay 25 = .ok (.iaload, 1) := by decide +kernel
theorem dX6_endOfPlay_26 : decode cX6_endOfPlay 26 = .ok (.iadd, 1) := by decide +kernel
theorem dX6_endOfPlay_27 : decode cX6_endOfPlay 27 = .ok (.ireturn, 1) := by decide +kernel
theorem dX6_secondsWithin_0 : decode cX6_secondsWithin 0 = .ok (.iload_n 2, 1) := by decide +kernel
theorem dX6_secondsWithin_1 : decode cX6_secondsWithin 1 = .ok (.aload_n 0, 1) := by decide +kernel
theorem dX6_secondsWithin_2 : decode cX6_secondsWithin 2 = .ok (.getfield 44, 3) := by decide +kernel
theorem dX6_secondsWithin_5 : decode cX6_secondsWithin 5 = .ok (.getfield 170, 3) := by decide +kernel
theorem dX6_secondsWithin_8 : decode cX6_secondsWithin 8 = .ok (.iload_n 1, 1) := by decide +kernel
theorem dX6_secondsWithin_9 : decode cX6_secondsWithin 9 = .ok (.iaload, 1) := by decide +kernel
theorem dX6_secondsWithin_10 : decode cX6_secondsWithin 10 = .ok (.invokestatic 245, 3) := by decide +kernel
theorem dX6_secondsWithin_13 : decode cX6_secondsWithin 13 = .ok (.istore 4, 2) := by decide +kernel
theorem dX6_secondsWithin_15 : decode cX6_secondsWithin 15 = .ok (.iload_n 3, 1) := by decide +kernel
theorem dX6_secondsWithin_16 : decode cX6_secondsWithin 16 = .ok (.aload_n 0, 1) := by decide +kernel
theorem dX6_secondsWithin_17 : decode cX6_secondsWithin 17 = .ok (.iload_n 1, 1) := by decide +kernel
theorem dX6_secondsWithin_18 : decode cX6_secondsWithin 18 = .ok (.invokevirtual 187, 3) := by decide +kernel
theorem dX6_secondsWithin_21 : decode cX6_secondsWithin 21 = .ok (.invokestatic 251, 3) := by decide +kernel
theorem dX6_secondsWithin_24 : decode cX6_secondsWithin 24 = .ok (.istore 5, 2) := by decide +kernel
theorem dX6_secondsWithin_26 : decode cX6_secondsWithin 26 = .ok (.iload 5, 2) := by decide +kernel
theorem dX6_secondsWithin_28 : decode cX6_secondsWithin 28 = .ok (.iload 4, 2) := by decide +kernel
theorem dX6_secondsWithin_30 : decode cX6_secondsWithin 30 = .ok (.if_icmp .le 11, 3) := by decide +kernel
theorem dX6_secondsWithin_33 : decode cX6_secondsWithin 33 = .ok (.iload 5, 2) := by decide +kernel
theorem dX6_secondsWithin_35 : decode cX6_secondsWithin 35 = .ok (.iload 4, 2) := by decide +kernel
theorem dX6_secondsWithin_37 : decode cX6_secondsWithin 37 = .ok (.isub, 1) := by decide +kernel
theorem dX6_secondsWithin_38 : decode cX6_secondsWithin 38 = .ok (.goto 4, 3) := by decide +kernel
theorem dX6_secondsWithin_41 : decode cX6_secondsWithin 41 = .ok (.iconst 0, 1) := by decide +kernel
theorem dX6_secondsWithin_42 : decode cX6_secondsWithin 42 = .ok (.ireturn, 1) := by decide +kernel
theorem dX7_init_0 : decode cX7_init 0 = .ok (.aload_n 0, 1) := by decide +kernel
theorem dX7_init_1 : decode cX7_init 1 = .ok (.invokespecial 1, 3) := by decide +kernel
theorem dX7_init_4 : decode cX7_init 4 = .ok (.aload_n 0, 1) := by decide +kernel
theorem dX7_init_5 : decode cX7_init 5 = .ok (.sipush 260, 3) := by decide +kernel
theorem dX7_init_8 : decode cX7_init 8 = .ok (.newarray .int, 2) := by decide +kernel
theorem dX7_init_10 : decode cX7_init 10 = .ok (.putfield 7, 3) := by decide +kernel
theorem dX7_init_13 : decode cX7_init 13 = .ok (.aload_n 0, 1) := by decide +kernel
theorem dX7_init_14 : decode cX7_init 14 = .ok (.iconst 5, 1) := by decide +kernel
theorem dX7_init_15 : decode cX7_init 15 = .ok (.newarray .int, 2) := by decide +kernel
theorem dX7_init_17 : decode cX7_init 17 = .ok (.dup, 1) := by decide +kernel
theorem dX7_init_18 : decode cX7_init 18 = .ok (.iconst 0, 1) := by decide +kernel
theorem dX7_init_19 : decode cX7_init 19 = .ok (.sipush 180, 3) := by decide +kernel
theorem dX7_init_22 : decode cX7_init 22 = .ok (.iastore, 1) := by decide +kernel
theorem dX7_init_23 : decode cX7_init 23 = .ok (.dup, 1) := by decide +kernel
theorem dX7_init_24 : decode cX7_init 24 = .ok (.iconst 1, 1) := by decide +kernel
theorem dX7_init_25 : decode cX7_init 25 = .ok (.bipush 60, 2) := by decide +kernel
theorem dX7_init_27 : decode cX7_init 27 = .ok (.iastore, 1) := by decide +kernel
theorem dX7_init_28 : decode cX7_init 28 = .ok (.dup, 1) := by decide +kernel
theorem dX7_init_29 : decode cX7_init 29 = .ok (.iconst 2, 1) := by decide +kernel
theorem dX7_init_30 : decode cX7_init 30 = .ok (.bipush 6, 2) := by decide +kernel
theorem dX7_init_32 : decode cX7_init 32 = .ok (.iastore, 1) := by decide +kernel
theorem dX7_init_33 : decode cX7_init 33 = .ok (.dup, 1) := by decide +kernel
theorem dX7_init_34 : decode cX7_init 34 = .ok (.iconst 3, 1) := by decide +kernel
theorem dX7_init_35 : decode cX7_init 35 = .ok (.bipush 60, 2) := by decide +kernel
theorem dX7_init_37 : decode cX7_init 37 = .ok (.iastore, 1) := by decide +kernel
theorem dX7_init_38 : decode cX7_init 38 = .ok (.dup, 1) := by decide +kernel
theorem dX7_init_39 : decode cX7_init 39 = .ok (.iconst 4, 1) := by decide +kernel
theorem dX7_init_40 : decode cX7_init 40 = .ok (.iconst 4, 1) := by decide +kernel
theorem dX7_init_41 : decode cX7_init 41 = .ok (.iastore, 1) := by decide +kernel
theorem dX7_init_42 : decode cX7_init 42 = .ok (.putfield 13, 3) := by decide +kernel
theorem dX7_init_45 : decode cX7_init 45 = .ok (.aload_n 0, 1) := by decide +kernel
theorem dX7_init_46 : decode cX7_init 46 = .ok (.iconst 5, 1) := by decide +kernel
theorem dX7_init_47 : decode cX7_init 47 = .ok (.newarray .int, 2) := by decide +kernel
theorem dX7_init_49 : decode cX7_init 49 = .ok (.dup, 1) := by decide +kernel
theorem dX7_init_50 : decode cX7_init 50 = .ok (.iconst 0, 1) := by decide +kernel
theorem dX7_init_51 : decode cX7_init 51 = .ok (.sipush 180, 3) := by decide +kernel
theorem dX7_init_54 : decode cX7_init 54 = .ok (.iastore, 1) := by decide +kernel
theorem dX7_init_55 : decode cX7_init 55 = .ok (.dup, 1) := by decide +kernel
theorem dX7_init_56 : decode cX7_init 56 = .ok (.iconst 1, 1) := by decide +kernel
theorem dX7_init_57 : decode cX7_init 57 = .ok (.bipush 60, 2) := by decide +kernel
theorem dX7_init_59 : decode cX7_init 59 = .ok (.iastore, 1) := by decide +kernel
theorem dX7_init_60 : decode cX7_init 60 = .ok (.dup, 1) := by decide +kernel
theorem dX7_init_61 : decode cX7_init 61 = .ok (.iconst 2, 1) := by decide +kernel
theorem dX7_init_62 : decode cX7_init 62 = .ok (.bipush 6, 2) := by decide +kernel
theorem dX7_init_64 : decode cX7_init 64 = .ok (.iastore, 1) := by decide +kernel
theorem dX7_init_65 : decode cX7_init 65 = .ok (.dup, 1) := by decide +kernel
theorem dX7_init_66 : decode cX7_init 66 = .ok (.iconst 3, 1) := by decide +kernel
theorem dX7_init_67 : decode cX7_init 67 = .ok (.bipush 60, 2) := by decide +kernel
theorem dX7_init_69 : decode cX7_init 69 = .ok (.iastore, 1) := by decide +kernel
theorem dX7_init_70 : decode cX7_init 70 = .ok (.dup, 1) := by decide +kernel
theorem dX7_init_71 : decode cX7_init 71 = .ok (.iconst 4, 1) := by decide +kernel
theorem dX7_init_72 : decode cX7_init 72 = .ok (.iconst 4, 1) := by decide +kernel
theorem dX7_init_73 : decode cX7_init 73 = .ok (.iastore, 1) := by decide +kernel
theorem dX7_init_74 : decode cX7_init 74 = .ok (.putfield 16, 3) := by decide +kernel
theorem dX7_init_77 : decode cX7_init 77 = .ok (.aload_n 0, 1) := by decide +kernel
theorem dX7_init_78 : decode cX7_init 78 = .ok (.iconst 5, 1) := by decide +kernel
theorem dX7_init_79 : decode cX7_init 79 = .ok (.newarray .int, 2) := by decide +kernel
theorem dX7_init_81 : decode cX7_init 81 = .ok (.dup, 1) := by decide +kernel
theorem dX7_init_82 : decode cX7_init 82 = .ok (.iconst 0, 1) := by decide +kernel
theorem dX7_init_83 : decode cX7_init 83 = .ok (.sipush 180, 3) := by decide +kernel
theorem dX7_init_86 : decode cX7_init 86 = .ok (.iastore, 1) := by decide +kernel
theorem dX7_init_87 : decode cX7_init 87 = .ok (.dup, 1) := by decide +kernel
theorem dX7_init_88 : decode cX7_init 88 = .ok (.iconst 1, 1) := by decide +kernel
theorem dX7_init_89 : decode cX7_init 89 = .ok (.bipush 60, 2) := by decide +kernel
theorem dX7_init_91 : decode cX7_init 91 = .ok (.iastore, 1) := by decide +kernel
theorem dX7_init_92 : decode cX7_init 92 = .ok (.dup, 1) := by decide +kernel
theorem dX7_init_93 : decode cX7_init 93 = .ok (.iconst 2, 1) := by decide +kernel
theorem dX7_init_94 : decode cX7_init 94 = .ok (.bipush 6, 2) := by decide +kernel
theorem dX7_init_96 : decode cX7_init 96 = .ok (.iastore, 1) := by decide +kernel
theorem dX7_init_97 : decode cX7_init 97 = .ok (.dup, 1) := by decide +kernel
theorem dX7_init_98 : decode cX7_init 98 = .ok (.iconst 3, 1) := by decide +kernel
theorem dX7_init_99 : decode cX7_init 99 = .ok (.bipush 60, 2) := by decide +kernel
theorem dX7_init_101 : decode cX7_init 101 = .ok (.iastore, 1) := by decide +kernel
theorem dX7_init_102 : decode cX7_init 102 = .ok (.dup, 1) := by decide +kernel
theorem dX7_init_103 : decode cX7_init 103 = .ok (.iconst 4, 1) := by decide +kernel
theorem dX7_init_104 : decode cX7_init 104 = .ok (.iconst 4, 1) := by decide +kernel
theorem dX7_init_105 : decode cX7_init 105 = .ok (.iastore, 1) := by decide +kernel
theorem dX7_init_106 : decode cX7_init 106 = .ok (.putfield 19, 3) := by decide +kernel
theorem dX7_init_109 : decode cX7_init 109 = .ok (.aload_n 0, 1) := by decide +kernel
theorem dX7_init_110 : decode cX7_init 110 = .ok (.iconst 5, 1) := by decide +kernel
theorem dX7_init_111 : decode cX7_init 111 = .ok (.newarray .int, 2) := by decide +kernel
theorem dX7_init_113 : decode cX7_init 113 = .ok (.dup, 1) := by decide +kernel
theorem dX7_init_114 : decode cX7_init 114 = .ok (.iconst 0, 1) := by decide +kernel
theorem dX7_init_115 : decode cX7_init 115 = .ok (.iconst 0, 1) := by decide +kernel
theorem dX7_init_116 : decode cX7_init 116 = .ok (.iastore, 1) := by decide +kernel
theorem dX7_init_117 : decode cX7_init 117 = .ok (.dup, 1) := by decide +kernel
theorem dX7_init_118 : decode cX7_init 118 = .ok (.iconst 1, 1) := by decide +kernel
theorem dX7_init_119 : decode cX7_init 119 = .ok (.iconst 0, 1) := by decide +kernel
theorem dX7_init_120 : decode cX7_init 120 = .ok (.iastore, 1) := by decide +kernel
theorem dX7_init_121 : decode cX7_init 121 = .ok (.dup, 1) := by decide +kernel
theorem dX7_init_122 : decode cX7_init 122 = .ok (.iconst 2, 1) := by decide +kernel
theorem dX7_init_123 : decode cX7_init 123 = .ok (.iconst 0, 1) := by decide +kernel
theorem dX7_init_124 : decode cX7_init 124 = .ok (.iastore, 1) := by decide +kernel
theorem dX7_init_125 : decode cX7_init 125 = .ok (.dup, 1) := by decide +kernel
theorem dX7_init_126 : decode cX7_init 126 = .ok (.iconst 3, 1) := by decide +kernel
theorem dX7_init_127 : decode cX7_init 127 = .ok (.iconst 0, 1) := by decide +kernel
theorem dX7_init_128 : decode cX7_init 128 = .ok (.iastore, 1) := by decide +kernel
theorem dX7_init_129 : decode cX7_init 129 = .ok (.dup, 1) := by decide +kernel
theorem dX7_init_130 : decode cX7_init 130 = .ok (.iconst 4, 1) := by decide +kernel
theorem dX7_init_131 : decode cX7_init 131 = .ok (.iconst 1, 1) := by decide +kernel
theorem dX7_init_132 : decode cX7_init 132 = .ok (.iastore, 1) := by decide +kernel
theorem dX7_init_133 : decode cX7_init 133 = .ok (.putfield 22, 3) := by decide +kernel
theorem dX7_init_136 : decode cX7_init 136 = .ok (.aload_n 0, 1) := by decide +kernel
theorem dX7_init_137 : decode cX7_init 137 = .ok (.iconst 5, 1) := by decide +kernel
theorem dX7_init_138 : decode cX7_init 138 = .ok (.newarray .int, 2) := by decide +kernel
theorem dX7_init_140 : decode cX7_init 140 = .ok (.dup, 1) := by decide +kernel
theorem dX7_init_141 : decode cX7_init 141 = .ok (.iconst 0, 1) := by decide +kernel
theorem dX7_init_142 : decode cX7_init 142 = .ok (.sipush 9999, 3) := by decide +kernel
theorem dX7_init_145 : decode cX7_init 145 = .ok (.iastore, 1) := by decide +kernel
theorem dX7_init_146 : decode cX7_init 146 = .ok (.dup, 1) := by decide +kernel
theorem dX7_init_147 : decode cX7_init 147 = .ok (.iconst 1, 1) := by decide +kernel
theorem dX7_init_148 : decode cX7_init 148 = .ok (.sipush 9999, 3) := by decide +kernel
theorem dX7_init_151 : decode cX7_init 151 = .ok (.iastore, 1) := by decide +kernel
theorem dX7_init_152 : decode cX7_init 152 = .ok (.dup, 1) := by decide +kernel
theorem dX7_init_153 : decode cX7_init 153 = .ok (.iconst 2, 1) := by decide +kernel
theorem dX7_init_154 : decode cX7_init 154 = .ok (.bipush 6, 2) := by decide +kernel
theorem dX7_init_156 : decode cX7_init 156 = .ok (.iastore, 1) := by decide +kernel
theorem dX7_init_157 : decode cX7_init 157 = .ok (.dup, 1) := by decide +kernel
theorem dX7_init_158 : decode cX7_init 158 = .ok (.iconst 3, 1) := by decide +kernel
theorem dX7_init_159 : decode cX7_init 159 = .ok (.sipush 900, 3) := by decide +kernel
theorem dX7_init_162 : decode cX7_init 162 = .ok (.iastore, 1) := by decide +kernel
theorem dX7_init_163 : decode cX7_init 163 = .ok (.dup, 1) := by decide +kernel
theorem dX7_init_164 : decode cX7_init 164 = .ok (.iconst 4, 1) := by decide +kernel
theorem dX7_init_165 : decode cX7_init 165 = .ok (.iconst 4, 1) := by decide +kernel
theorem dX7_init_166 : decode cX7_init 166 = .ok (.iastore, 1) := by decide +kernel
theorem dX7_init_167 : decode cX7_init 167 = .ok (.putfield 25, 3) := by decide +kernel
theorem dX7_init_170 : decode cX7_init 170 = .ok (.aload_n 0, 1) := by decide +kernel
theorem dX7_init_171 : decode cX7_init 171 = .ok (.bipush 7, 2) := by decide +kernel
theorem dX7_init_173 : decode cX7_init 173 = .ok (.newarray .int, 2) := by decide +kernel
theorem dX7_init_175 : decode cX7_init 175 = .ok (.putfield 28, 3) := by decide +kernel
theorem dX7_init_178 : decode cX7_init 178 = .ok (.aload_n 0, 1) := by decide +kernel
theorem dX7_init_179 : decode cX7_init 179 = .ok (.bipush 56, 2) := by decide +kernel
theorem dX7_init_181 : decode cX7_init 181 = .ok (.newarray .int, 2) := by decide +kernel
theorem dX7_init_183 : decode cX7_init 183 = .ok (.putfield 31, 3) := by decide +kernel
theorem dX7_init_186 : decode cX7_init 186 = .ok (.aload_n 0, 1) := by decide +kernel
theorem dX7_init_187 : decode cX7_init 187 = .ok (.bipush 56, 2) := by decide +kernel
theorem dX7_init_189 : decode cX7_init 189 = .ok (.newarray .int, 2) := by decide +kernel
theorem dX7_init_191 : decode cX7_init 191 = .ok (.putfield 34, 3) := by decide +kernel
theorem dX7_init_194 : decode cX7_init 194 = .ok (.aload_n 0, 1) := by decide +kernel
theorem dX7_init_195 : decode cX7_init 195 = .ok (.bipush 56, 2) := by decide +kernel
theorem dX7_init_197 : decode cX7_init 197 = .ok (.newarray .int, 2) := by decide +kernel
theorem dX7_init_199 : decode cX7_init 199 = .ok (.putfield 37, 3) := by decide +kernel
theorem dX7_init_202 : decode cX7_init 202 = .ok (.aload_n 0, 1) := by decide +kernel
theorem dX7_init_203 : decode cX7_init 203 = .ok (.bipush 24, 2) := by decide +kernel
theorem dX7_init_205 : decode cX7_init 205 = .ok (.newarray .int, 2) := by decide +kernel
theorem dX7_init_207 : decode cX7_init 207 = .ok (.putfield 40, 3) := by decide +kernel
theorem dX7_init_210 : decode cX7_init 210 = .ok (.aload_n 0, 1) := by decide +kernel
theorem dX7_init_211 : decode cX7_init 211 = .ok (.bipush 24, 2) := by decide +kernel
theorem dX7_init_213 : decode cX7_init 213 = .ok (.newarray .int, 2) := by decide +kernel
theorem dX7_init_215 : decode cX7_init 215 = .ok (.putfield 43, 3) := by decide +kernel
theorem dX7_init_218 : decode cX7_init 218 = .ok (.aload_n 0, 1) := by decide +kernel
theorem dX7_init_219 : decode cX7_init 219 = .ok (.bipush 24, 2) := by decide +kernel
theorem dX7_init_221 : decode cX7_init 221 = .ok (.newarray .int, 2) := by decide +kernel
theorem dX7_init_223 : decode cX7_init 223 = .ok (.putfield 46, 3) := by decide +kernel
theorem dX7_init_226 : decode cX7_init 226 = .ok (.aload_n 0, 1) := by decide +kernel
theorem dX7_init_227 : decode cX7_init 227 = .ok (.bipush 24, 2) := by decide +kernel
theorem dX7_init_229 : decode cX7_init 229 = .ok (.newarray .int, 2) := by decide +kernel
theorem dX7_init_231 : decode cX7_init 231 = .ok (.putfield 49, 3) := by decide +kernel
theorem dX7_init_234 : decode cX7_init 234 = .ok (.aload_n 0, 1) := by decide +kernel
theorem dX7_init_235 : decode cX7_init 235 = .ok (.bipush 24, 2) := by decide +kernel
theorem dX7_init_237 : decode cX7_init 237 = .ok (.newarray .int, 2) := by decide +kernel
theorem dX7_init_239 : decode cX7_init 239 = .ok (.putfield 52, 3) := by decide +kernel
theorem dX7_init_242 : decode cX7_init 242 = .ok (.aload_n 0, 1) := by decide +kernel
theorem dX7_init_243 : decode cX7_init 243 = .ok (.bipush 24, 2) := by decide +kernel
theorem dX7_init_245 : decode cX7_init 245 = .ok (.newarray .int, 2) := by decide +kernel
theorem dX7_init_247 : decode cX7_init 247 = .ok (.putfield 55, 3) := by decide +kernel
theorem dX7_init_250 : decode cX7_init 250 = .ok (.aload_n 0, 1) := by decide +kernel
theorem dX7_init_251 : decode cX7_init 251 = .ok (.bipush 24, 2) := by decide +kernel
theorem dX7_init_253 : decode cX7_init 253 = .ok (.newarray .int, 2) := by decide +kernel
theorem dX7_init_255 : decode cX7_init 255 = .ok (.putfield 58, 3) := by decide +kernel
theorem dX7_init_258 : decode cX7_init 258 = .ok (.aload_n 0, 1) := by decide +kernel
theorem dX7_init_259 : decode cX7_init 259 = .ok (.sipush 240, 3) := by decide +kernel
theorem dX7_init_262 : decode cX7_init 262 = .ok (.newarray .int, 2) := by decide +kernel
theorem dX7_init_264 : decode cX7_init 264 = .ok (.putfield 61, 3) := by decide +kernel
theorem dX7_init_267 : decode cX7_init 267 = .ok (.aload_n 0, 1) := by decide +kernel
theorem dX7_init_268 : decode cX7_init 268 = .ok (.bipush 24, 2) := by decide +kernel
theorem dX7_init_270 : decode cX7_init 270 = .ok (.newarray .int, 2) := by decide +kernel
theorem dX7_init_272 : decode cX7_init 272 = .ok (.putfield 64, 3) := by decide +kernel
theorem dX7_init_275 : decode cX7_init 275 = .ok (.aload_n 0, 1) := by decide +kernel
theorem dX7_init_276 : decode cX7_init 276 = .ok (.bipush 24, 2) := by decide +kernel
theorem dX7_init_278 : decode cX7_init 278 = .ok (.newarray .boolean, 2) := by decide +kernel
theorem dX7_init_280 : decode cX7_init 280 = .ok (.putfield 67, 3) := by decide +kernel
theorem dX7_init_283 : decode cX7_init 283 = .ok (.aload_n 0, 1) := by decide +kernel
theorem dX7_init_284 : decode cX7_init 284 = .ok (.sipush 300, 3) := by decide +kernel
theorem dX7_init_287 : decode cX7_init 287 = .ok (.newarray .int, 2) := by decide +kernel
theorem dX7_init_289 : decode cX7_init 289 = .ok (.putfield 71, 3) := by decide +kernel
theorem dX7_init_292 : decode cX7_init 292 = .ok (.aload_n 0, 1) := by decide +kernel
theorem dX7_init_293 : decode cX7_init 293 = .ok (.sipush 300, 3) := by decide +kernel
theorem dX7_init_296 : decode cX7_init 296 = .ok (.newarray .int, 2) := by decide +kernel
theorem dX7_init_298 : decode cX7_init 298 = .ok (.putfield 74, 3) := by decide +kernel
theorem dX7_init_301 : decode cX7_init 301 = .ok (.aload_n 0, 1) := by decide +kernel
theorem dX7_init_302 : decode cX7_init 302 = .ok (.sipush 300, 3) := by decide +kernel
theorem dX7_init_305 : decode cX7_init 305 = .ok (.newarray .int, 2) := by decide +kernel
theorem dX7_init_307 : decode cX7_init 307 = .ok (.putfield 77, 3) := by decide +kernel
theorem dX7_init_310 : decode cX7_init 310 = .ok (.aload_n 0, 1) := by decide +kernel
theorem dX7_init_311 : decode cX7_init 311 = .ok (.sipush 1344, 3) := by decide +kernel
theorem dX7_init_314 : decode cX7_init 314 = .ok (.newarray .int, 2) := by decide +kernel
theorem dX7_init_316 : decode cX7_init 316 = .ok (.putfield 80, 3) := by decide +kernel
theorem dX7_init_319 : decode cX7_init 319 = .ok (.aload_n 0, 1) := by decide +kernel
theorem dX7_init_320 : decode cX7_init 320 = .ok (.bipush 24, 2) := by decide +kernel
theorem dX7_init_322 : decode cX7_init 322 = .ok (.newarray .int, 2) := by decide +kernel
theorem dX7_init_324 : decode cX7_init 324 = .ok (.putfield 83, 3) := by decide +kernel
theorem dX7_init_327 : decode cX7_init 327 = .ok (.aload_n 0, 1) := by decide +kernel
theorem dX7_init_328 : decode cX7_init 328 = .ok (.ldc 86, 2) := by decide +kernel
theorem dX7_init_330 : decode cX7_init 330 = .ok (.newarray .int, 2) := by decide +kernel
theorem dX7_init_332 : decode cX7_init 332 = .ok (.putfield 87, 3) := by decide +kernel
theorem dX7_init_335 : decode cX7_init 335 = .ok (.aload_n 0, 1) := by decide +kernel
theorem dX7_init_336 : decode cX7_init 336 = .ok (.ldc 86, 2) := by decide +kernel
theorem dX7_init_338 : decode cX7_init 338 = .ok (.newarray .int, 2) := by decide +kernel
theorem dX7_init_340 : decode cX7_init 340 = .ok (.putfield 90, 3) := by decide +kernel
theorem dX7_init_343 : decode cX7_init 343 = .ok (.aload_n 0, 1) := by decide +kernel
theorem dX7_init_344 : decode cX7_init 344 = .ok (.sipush 13824, 3) := by decide +kernel
theorem dX7_init_347 : decode cX7_init 347 = .ok (.newarray .int, 2) := by decide +kernel
theorem dX7_init_349 : decode cX7_init 349 = .ok (.putfield 93, 3) := by decide +kernel
theorem dX7_init_352 : decode cX7_init 352 = .ok (.aload_n 0, 1) := by decide +kernel
theorem dX7_init_353 : decode cX7_init 353 = .ok (.sipush 13824, 3) := by decide +kernel
theorem dX7_init_356 : decode cX7_init 356 = .ok (.newarray .int, 2) := by decide +kernel
theorem dX7_init_358 : decode cX7_init 358 = .ok (.putfield 96, 3) := by decide +kernel
theorem dX7_init_361 : decode cX7_init 361 = .ok (.aload_n 0, 1) := by decide +kernel
theorem dX7_init_362 : decode cX7_init 362 = .ok (.iconst 4, 1) := by decide +kernel
theorem dX7_init_363 : decode cX7_init 363 = .ok (.newarray .int, 2) := by decide +kernel
theorem dX7_init_365 : decode cX7_init 365 = .ok (.putfield 99, 3) := by decide +kernel
theorem dX7_init_368 : decode cX7_init 368 = .ok (.aload_n 0, 1) := by decide +kernel
theorem dX7_init_369 : decode cX7_init 369 = .ok (.sipush 168, 3) := by decide +kernel
theorem dX7_init_372 : decode cX7_init 372 = .ok (.newarray .int, 2) := by decide +kernel
theorem dX7_init_374 : decode cX7_init 374 = .ok (.putfield 102, 3) := by decide +kernel
theorem dX7_init_377 : decode cX7_init 377 = .ok (.return_, 1) := by decide +kernel
theorem dX7_thrown_0 : decode cX7_thrown 0 = .ok (.aload_n 0, 1) := by decide +kernel
theorem dX7_thrown_1 : decode cX7_thrown 1 = .ok (.getfield 105, 3) := by decide +kernel
theorem dX7_thrown_4 : decode cX7_thrown 4 = .ok (.ireturn, 1) := by decide +kernel
theorem dX7_refuse_0 : decode cX7_refuse 0 = .ok (.aload_n 0, 1) := by decide +kernel
theorem dX7_refuse_1 : decode cX7_refuse 1 = .ok (.iconst 1, 1) := by decide +kernel
theorem dX7_refuse_2 : decode cX7_refuse 2 = .ok (.putfield 105, 3) := by decide +kernel
theorem dX7_refuse_5 : decode cX7_refuse 5 = .ok (.iconst 0, 1) := by decide +kernel
theorem dX7_refuse_6 : decode cX7_refuse 6 = .ok (.ireturn, 1) := by decide +kernel
theorem dX7_come_0 : decode cX7_come 0 = .ok (.bipush 24, 2) := by decide +kernel
theorem dX7_come_2 : decode cX7_come 2 = .ok (.istore_n 2, 1) := by decide +kernel
theorem dX7_come_3 : decode cX7_come 3 = .ok (.iload_n 2, 1) := by decide +kernel
theorem dX7_come_4 : decode cX7_come 4 = .ok (.ifCond .lt 35, 3) := by decide +kernel
theorem dX7_come_7 : decode cX7_come 7 = .ok (.aload_n 0, 1) := by decide +kernel
theorem dX7_come_8 : decode cX7_come 8 = .ok (.getfield 7, 3) := by decide +kernel
theorem dX7_come_11 : decode cX7_come 11 = .ok (.aload_n 0, 1) := by decide +kernel
theorem dX7_come_12 : decode cX7_come 12 = .ok (.getfield 109, 3) := by decide +kernel
theorem dX7_come_15 : decode cX7_come 15 = .ok (.iload_n 1, 1) := by decide +kernel
theorem dX7_come_16 : decode cX7_come 16 = .ok (.iload_n 2, 1) := by decide +kernel
theorem dX7_come_17 : decode cX7_come 17 = .ok (.iushr, 1) := by decide +kernel
theorem dX7_come_18 : decode cX7_come 18 = .ok (.sipush 255, 3) := by decide +kernel
theorem dX7_come_21 : decode cX7_come 21 = .ok (.iand, 1) := by decide +kernel
theorem dX7_come_22 : decode cX7_come 22 = .ok (.iastore, 1) := by decide +kernel
theorem dX7_come_23 : decode cX7_come 23 = .ok (.aload_n 0, 1) := by decide +kernel
theorem dX7_come_24 : decode cX7_come 24 = .ok (.dup, 1) := by decide +kernel
theorem dX7_come_25 : decode cX7_come 25 = .ok (.getfield 109, 3) := by decide +kernel
theorem dX7_come_28 : decode cX7_come 28 = .ok (.iconst 1, 1) := by decide +kernel
theorem dX7_come_29 : decode cX7_come 29 = .ok (.iadd, 1) := by decide +kernel
theorem dX7_come_30 : decode cX7_come 30 = .ok (.putfield 109, 3) := by decide +kernel
theorem dX7_come_33 : decode cX7_come 33 = .ok (.iinc 2 (-8), 3) := by decide +kernel
theorem dX7_come_36 : decode cX7_come 36 = .ok (.goto (-33), 3) := by decide +kernel
theorem dX7_come_39 : decode cX7_come 39 = .ok (.return_, 1) := by decide +kernel
theorem dX7_feed_0 : decode cX7_feed 0 = .ok (.aload_n 0, 1) := by decide +kernel
theorem dX7_feed_1 : decode cX7_feed 1 = .ok (.iconst 0, 1) := by decide +kernel
theorem dX7_feed_2 : decode cX7_feed 2 = .ok (.putfield 105, 3) := by decide +kernel
theorem dX7_feed_5 : decode cX7_feed 5 = .ok (.aload_n 0, 1) := by decide +kernel
theorem dX7_feed_6 : decode cX7_feed 6 = .ok (.getfield 109, 3) := by decide +kernel
theorem dX7_feed_9 : decode cX7_feed 9 = .ok (.bipush 20, 2) := by decide +kernel
theorem dX7_feed_11 : decode cX7_feed 11 = .ok (.iadd, 1) := by decide +kernel
theorem dX7_feed_12 : decode cX7_feed 12 = .ok (.sipush 260, 3) := by decide +kernel
theorem dX7_feed_15 : decode cX7_feed 15 = .ok (.if_icmp .le 5, 3) := by decide +kernel
theorem dX7_feed_18 : decode cX7_feed 18 = .ok (.iconst (-1), 1) := by decide +kernel
theorem dX7_feed_19 : decode cX7_feed 19 = .ok (.ireturn, 1) := by decide +kernel
theorem dX7_feed_20 : decode cX7_feed 20 = .ok (.aload_n 0, 1) := by decide +kernel
theorem dX7_feed_21 : decode cX7_feed 21 = .ok (.iload_n 1, 1) := by decide +kernel
theorem dX7_feed_22 : decode cX7_feed 22 = .ok (.invokevirtual 112, 3) := by decide +kernel
theorem dX7_feed_25 : decode cX7_feed 25 = .ok (.aload_n 0, 1) := by decide +kernel
theorem dX7_feed_26 : decode cX7_feed 26 = .ok (.iload_n 2, 1) := by decide +kernel
theorem dX7_feed_27 : decode cX7_feed 27 = .ok (.invokevirtual 112, 3) := by decide +kernel
theorem dX7_feed_30 : decode cX7_feed 30 = .ok (.aload_n 0, 1) := by decide +kernel
theorem dX7_feed_31 : decode cX7_feed 31 = .ok (.iload_n 3, 1) := by decide +kernel
theorem dX7_feed_32 : decode cX7_feed 32 = .ok (.invokevirtual 112, 3) := by decide +kernel
theorem dX7_feed_35 : decode cX7_feed 35 = .ok (.aload_n 0, 1) := by decide +kernel
theorem dX7_feed_36 : decode cX7_feed 36 = .ok (.iload 4, 2) := by decide +kernel
theorem dX7_feed_38 : decode cX7_feed 38 = .ok (.invokevirtual 112, 3) := by decide +kernel
theorem dX7_feed_41 : decode cX7_feed 41 = .ok (.aload_n 0, 1) := by decide +kernel
theorem dX7_feed_42 : decode cX7_feed 42 = .ok (.iload 5, 2) := by decide +kernel
theorem dX7_feed_44 : decode cX7_feed 44 = .ok (.invokevirtual 112, 3) := by decide +kernel
theorem dX7_feed_47 : decode cX7_feed 47 = .ok (.aload_n 0, 1) := by decide +kernel
theorem dX7_feed_48 : decode cX7_feed 48 = .ok (.getfield 109, 3) := by decide +kernel
theorem dX7_feed_51 : decode cX7_feed 51 = .ok (.ireturn, 1) := by decide +kernel
theorem dX7_end_0 : decode cX7_end 0 = .ok (.aload_n 0, 1) := by decide +kernel
theorem dX7_end_1 : decode cX7_end 1 = .ok (.iconst 0, 1) := by decide +kernel
theorem dX7_end_2 : decode cX7_end 2 = .ok (.putfield 105, 3) := by decide +kernel
theorem dX7_end_5 : decode cX7_end 5 = .ok (.iload_n 1, 1) := by decide +kernel
theorem dX7_end_6 : decode cX7_end 6 = .ok (.ifCond .lt 11, 3) := by decide +kernel
theorem dX7_end_9 : decode cX7_end 9 = .ok (.iload_n 1, 1) := by decide +kernel
theorem dX7_end_10 : decode cX7_end 10 = .ok (.aload_n 0, 1) := by decide +kernel
theorem dX7_end_11 : decode cX7_end 11 = .ok (.getfield 109, 3) := by decide +kernel
theorem dX7_end_14 : decode cX7_end 14 = .ok (.if_icmp .le 5, 3) := by decide +kernel
theorem dX7_end_17 : decode cX7_end 17 = .ok (.iconst 0, 1) := by decide +kernel
theorem dX7_end_18 : decode cX7_end 18 = .ok (.ireturn, 1) := by decide +kernel
theorem dX7_end_19 : decode cX7_end 19 = .ok (.aload_n 0, 1) := by decide +kernel
theorem dX7_end_20 : decode cX7_end 20 = .ok (.iload_n 1, 1) := by decide +kernel
theorem dX7_end_21 : decode cX7_end 21 = .ok (.putfield 109, 3) := by decide +kernel
theorem dX7_end_24 : decode cX7_end 24 = .ok (.iconst 1, 1) := by decide +kernel
theorem dX7_end_25 : decode cX7_end 25 = .ok (.ireturn, 1) := by decide +kernel
theorem dX7_byteAt_0 : decode cX7_byteAt 0 = .ok (.iload_n 1, 1) := by decide +kernel
theorem dX7_byteAt_1 : decode cX7_byteAt 1 = .ok (.aload_n 0, 1) := by decide +kernel
theorem dX7_byteAt_2 : decode cX7_byteAt 2 = .ok (.getfield 116, 3) := by decide +kernel
theorem dX7_byteAt_5 : decode cX7_byteAt 5 = .ok (.if_icmp .ge 12, 3) := by decide +kernel
theorem dX7_byteAt_8 : decode cX7_byteAt 8 = .ok (.aload_n 0, 1) := by decide +kernel
theorem dX7_byteAt_9 : decode cX7_byteAt 9 = .ok (.getfield 7, 3) := by decide +kernel
theorem dX7_byteAt_12 : decode cX7_byteAt 12 = .ok (.iload_n 1, 1) := by decide +kernel
theorem dX7_byteAt_13 : decode cX7_byteAt 13 = .ok (.iaload, 1) := by decide +kernel
theorem dX7_byteAt_14 : decode cX7_byteAt 14 = .ok (.goto 4, 3) := by decide +kernel
theorem dX7_byteAt_17 : decode cX7_byteAt 17 = .ok (.iconst 0, 1) := by decide +kernel
theorem dX7_byteAt_18 : decode cX7_byteAt 18 = .ok (.ireturn, 1) := by decide +kernel
theorem dX7_isDigit_0 : decode cX7_isDigit 0 = .ok (.iload_n 0, 1) := by decide +kernel
theorem dX7_isDigit_1 : decode cX7_isDigit 1 = .ok (.bipush 48, 2) := by decide +kernel
theorem dX7_isDigit_3 : decode cX7_isDigit 3 = .ok (.if_icmp .lt 13, 3) := by decide +kernel
theorem dX7_isDigit_6 : decode cX7_isDigit 6 = .ok (.iload_n 0, 1) := by decide +kernel
theorem dX7_isDigit_7 : decode cX7_isDigit 7 = .ok (.bipush 57, 2) := by decide +kernel
theorem dX7_isDigit_9 : decode cX7_isDigit 9 = .ok (.if_icmp .gt 7, 3) := by decide +kernel
theorem dX7_isDigit_12 : decode cX7_isDigit 12 = .ok (.iconst 1, 1) := by decide +kernel
theorem dX7_isDigit_13 : decode cX7_isDigit 13 = .ok (.goto 4, 3) := by decide +kernel
theorem dX7_isDigit_16 : decode cX7_isDigit 16 = .ok (.iconst 0, 1) := by decide +kernel
theorem dX7_isDigit_17 : decode cX7_isDigit 17 = .ok (.ireturn, 1) := by decide +kernel
theorem dX7_isLetter_0 : decode cX7_isLetter 0 = .ok (.iload_n 0, 1) := by decide +kernel
theorem dX7_isLetter_1 : decode cX7_isLetter 1 = .ok (.bipush 97, 2) := by decide +kernel
theorem dX7_isLetter_3 : decode cX7_isLetter 3 = .ok (.if_icmp .lt 13, 3) := by decide +kernel
theorem dX7_isLetter_6 : decode cX7_isLetter 6 = .ok (.iload_n 0, 1) := by decide +kernel
theorem dX7_isLetter_7 : decode cX7_isLetter 7 = .ok (.bipush 122, 2) := by decide +kernel
theorem dX7_isLetter_9 : decode cX7_isLetter 9 = .ok (.if_icmp .gt 7, 3) := by decide +kernel
theorem dX7_isLetter_12 : decode cX7_isLetter 12 = .ok (.iconst 1, 1) := by decide +kernel
theorem dX7_isLetter_13 : decode cX7_isLetter 13 = .ok (.goto 4, 3) := by decide +kernel
theorem dX7_isLetter_16 : decode cX7_isLetter 16 = .ok (.iconst 0, 1) := by decide +kernel
theorem dX7_isLetter_17 : decode cX7_isLetter 17 = .ok (.ireturn, 1) := by decide +kernel
theorem dX7_go_0 : decode cX7_go 0 = .ok (.aload_n 0, 1) := by decide +kernel
theorem dX7_go_1 : decode cX7_go 1 = .ok (.getfield 119, 3) := by decide +kernel
theorem dX7_go_4 : decode cX7_go 4 = .ok (.aload_n 0, 1) := by decide +kernel
theorem dX7_go_5 : decode cX7_go 5 = .ok (.getfield 116, 3) := by decide +kernel
theorem dX7_go_8 : decode cX7_go 8 = .ok (.if_icmp .ge 44, 3) := by decide +kernel
theorem dX7_go_11 : decode cX7_go 11 = .ok (.aload_n 0, 1) := by decide +kernel
theorem dX7_go_12 : decode cX7_go 12 = .ok (.getfield 7, 3) := by decide +kernel
theorem dX7_go_15 : decode cX7_go 15 = .ok (.aload_n 0, 1) := by decide +kernel
theorem dX7_go_16 : decode cX7_go 16 = .ok (.getfield 119, 3) := by decide +kernel
theorem dX7_go_19 : decode cX7_go 19 = .ok (.iaload, 1) := by decide +kernel
theorem dX7_go_20 : decode cX7_go 20 = .ok (.bipush 32, 2) := by decide +kernel
theorem dX7_go_22 : decode cX7_go 22 = .ok (.if_icmp .eq 17, 3) := by decide +kernel
theorem dX7_go_25 : decode cX7_go 25 = .ok (.aload_n 0, 1) := by decide +kernel
theorem dX7_go_26 : decode cX7_go 26 = .ok (.getfield 7, 3) := by decide +kernel
theorem dX7_go_29 : decode cX7_go 29 = .ok (.aload_n 0, 1) := by decide +kernel
theorem dX7_go_30 : decode cX7_go 30 = .ok (.getfield 119, 3) := by decide +kernel
theorem dX7_go_33 : decode cX7_go 33 = .ok (.iaload, 1) := by decide +kernel
theorem dX7_go_34 : decode cX7_go 34 = .ok (.bipush 10, 2) := by decide +kernel
theorem dX7_go_36 : decode cX7_go 36 = .ok (.if_icmp .ne 16, 3) := by decide +kernel
theorem dX7_go_39 : decode cX7_go 39 = .ok (.aload_n 0, 1) := by decide +kernel
theorem dX7_go_40 : decode cX7_go 40 = .ok (.dup, 1) := by decide +kernel
theorem dX7_go_41 : decode cX7_go 41 = .ok (.getfield 119, 3) := by decide +kernel
theorem dX7_go_44 : decode cX7_go 44 = .ok (.iconst 1, 1) := by decide +kernel
theorem dX7_go_45 : decode cX7_go 45 = .ok (.iadd, 1) := by decide +kernel
theorem dX7_go_46 : decode cX7_go 46 = .ok (.putfield 119, 3) := by decide +kernel
theorem dX7_go_49 : decode cX7_go 49 = .ok (.goto (-49), 3) := by decide +kernel
theorem dX7_go_52 : decode cX7_go 52 = .ok (.aload_n 0, 1) := by decide +kernel
theorem dX7_go_53 : decode cX7_go 53 = .ok (.aload_n 0, 1) := by decide +kernel
theorem dX7_go_54 : decode cX7_go 54 = .ok (.getfield 119, 3) := by decide +kernel
theorem dX7_go_57 : decode cX7_go 57 = .ok (.putfield 122, 3) := by decide +kernel
theorem dX7_go_60 : decode cX7_go 60 = .ok (.aload_n 0, 1) := by decide +kernel
theorem dX7_go_61 : decode cX7_go 61 = .ok (.getfield 116, 3) := by decide +kernel
theorem dX7_go_64 : decode cX7_go 64 = .ok (.aload_n 0, 1) := by decide +kernel
theorem dX7_go_65 : decode cX7_go 65 = .ok (.getfield 125, 3) := by decide +kernel
theorem dX7_go_68 : decode cX7_go 68 = .ok (.if_icmp .le 28, 3) := by decide +kernel
theorem dX7_go_71 : decode cX7_go 71 = .ok (.aload_n 0, 1) := by decide +kernel
theorem dX7_go_72 : decode cX7_go 72 = .ok (.getfield 122, 3) := by decide +kernel
theorem dX7_go_75 : decode cX7_go 75 = .ok (.aload_n 0, 1) := by decide +kernel
theorem dX7_go_76 : decode cX7_go 76 = .ok (.getfield 125, 3) := by decide +kernel
theorem dX7_go_79 : decode cX7_go 79 = .ok (.if_icmp .lt 17, 3) := by decide +kernel
theorem dX7_go_82 : decode cX7_go 82 = .ok (.aload_n 0, 1) := by decide +kernel
theorem dX7_go_83 : decode cX7_go 83 = .ok (.aload_n 0, 1) := by decide +kernel
theorem dX7_go_84 : decode cX7_go 84 = .ok (.getfield 125, 3) := by decide +kernel
theorem dX7_go_87 : decode cX7_go 87 = .ok (.putfield 122, 3) := by decide +kernel
theorem dX7_go_90 : decode cX7_go 90 = .ok (.aload_n 0, 1) := by decide +kernel
theorem dX7_go_91 : decode cX7_go 91 = .ok (.iconst 1, 1) := by decide +kernel
theorem dX7_go_92 : decode cX7_go 92 = .ok (.putfield 128, 3) := by decide +kernel
theorem dX7_go_95 : decode cX7_go 95 = .ok (.return_, 1) := by decide +kernel
theorem dX7_go_96 : decode cX7_go 96 = .ok (.aload_n 0, 1) := by decide +kernel
theorem dX7_go_97 : decode cX7_go 97 = .ok (.getfield 119, 3) := by decide +kernel
theorem dX7_go_100 : decode cX7_go 100 = .ok (.aload_n 0, 1) := by decide +kernel
theorem dX7_go_101 : decode cX7_go 101 = .ok (.getfield 116, 3) := by decide +kernel
theorem dX7_go_104 : decode cX7_go 104 = .ok (.if_icmp .lt 9, 3) := by decide +kernel
theorem dX7_go_107 : decode cX7_go 107 = .ok (.aload_n 0, 1) := by decide +kernel
theorem dX7_go_108 : decode cX7_go 108 = .ok (.iconst 0, 1) := by decide +kernel
theorem dX7_go_109 : decode cX7_go 109 = .ok (.putfield 128, 3) := by decide +kernel
theorem dX7_go_112 : decode cX7_go 112 = .ok (.return_, 1) := by decide +kernel
theorem dX7_go_113 : decode cX7_go 113 = .ok (.aload_n 0, 1) := by decide +kernel
theorem dX7_go_114 : decode cX7_go 114 = .ok (.getfield 7, 3) := by decide +kernel
theorem dX7_go_117 : decode cX7_go 117 = .ok (.aload_n 0, 1) := by decide +kernel
theorem dX7_go_118 : decode cX7_go 118 = .ok (.getfield 119, 3) := by decide +kernel
theorem dX7_go_121 : decode cX7_go 121 = .ok (.iaload, 1) := by decide +kernel
theorem dX7_go_122 : decode cX7_go 122 = .ok (.istore_n 1, 1) := by decide +kernel
theorem dX7_go_123 : decode cX7_go 123 = .ok (.iload_n 1, 1) := by decide +kernel
theorem dX7_go_124 : decode cX7_go 124 = .ok (.invokestatic 131, 3) := by decide +kernel
theorem dX7_go_127 : decode cX7_go 127 = .ok (.ifCond .ne 36, 3) := by decide +kernel
theorem dX7_go_130 : decode cX7_go 130 = .ok (.iload_n 1, 1) := by decide +kernel
theorem dX7_go_131 : decode cX7_go 131 = .ok (.invokestatic 135, 3) := by decide +kernel
theorem dX7_go_134 : decode cX7_go 134 = .ok (.ifCond .ne 29, 3) := by decide +kernel
theorem dX7_go_137 : decode cX7_go 137 = .ok (.aload_n 0, 1) := by decide +kernel
theorem dX7_go_138 : decode cX7_go 138 = .ok (.iload_n 1, 1) := by decide +kernel
theorem dX7_go_139 : decode cX7_go 139 = .ok (.bipush 59, 2) := by decide +kernel
theorem dX7_go_141 : decode cX7_go 141 = .ok (.if_icmp .ne 7, 3) := by decide +kernel
theorem dX7_go_144 : decode cX7_go 144 = .ok (.iconst 4, 1) := by decide +kernel
theorem dX7_go_145 : decode cX7_go 145 = .ok (.goto 4, 3) := by decide +kernel
theorem dX7_go_148 : decode cX7_go 148 = .ok (.iconst 1, 1) := by decide +kernel
theorem dX7_go_149 : decode cX7_go 149 = .ok (.putfield 128, 3) := by decide +kernel
theorem dX7_go_152 : decode cX7_go 152 = .ok (.aload_n 0, 1) := by decide +kernel
theorem dX7_go_153 : decode cX7_go 153 = .ok (.dup, 1) := by decide +kernel
theorem dX7_go_154 : decode cX7_go 154 = .ok (.getfield 119, 3) := by decide +kernel
theorem dX7_go_157 : decode cX7_go 157 = .ok (.iconst 1, 1) := by decide +kernel
theorem dX7_go_158 : decode cX7_go 158 = .ok (.iadd, 1) := by decide +kernel
theorem dX7_go_159 : decode cX7_go 159 = .ok (.putfield 119, 3) := by decide +kernel
theorem dX7_go_162 : decode cX7_go 162 = .ok (.return_, 1) := by decide +kernel
theorem dX7_go_163 : decode cX7_go 163 = .ok (.iload_n 1, 1) := by decide +kernel
theorem dX7_go_164 : decode cX7_go 164 = .ok (.invokestatic 131, 3) := by decide +kernel
theorem dX7_go_167 : decode cX7_go 167 = .ok (.istore_n 2, 1) := by decide +kernel
theorem dX7_go_168 : decode cX7_go 168 = .ok (.iconst 1, 1) := by decide +kernel
theorem dX7_go_169 : decode cX7_go 169 = .ok (.istore_n 3, 1) := by decide +kernel
theorem dX7_go_170 : decode cX7_go 170 = .ok (.aload_n 0, 1) := by decide +kernel
theorem dX7_go_171 : decode cX7_go 171 = .ok (.lconst 0, 1) := by decide +kernel
theorem dX7_go_172 : decode cX7_go 172 = .ok (.putfield 138, 3) := by decide +kernel
theorem dX7_go_175 : decode cX7_go 175 = .ok (.aload_n 0, 1) := by decide +kernel
theorem dX7_go_176 : decode cX7_go 176 = .ok (.iconst 0, 1) := by decide +kernel
theorem dX7_go_177 : decode cX7_go 177 = .ok (.putfield 142, 3) := by decide +kernel
theorem dX7_go_180 : decode cX7_go 180 = .ok (.aload_n 0, 1) := by decide +kernel
theorem dX7_go_181 : decode cX7_go 181 = .ok (.aload_n 0, 1) := by decide +kernel
theorem dX7_go_182 : decode cX7_go 182 = .ok (.getfield 119, 3) := by decide +kernel
theorem dX7_go_185 : decode cX7_go 185 = .ok (.invokevirtual 145, 3) := by decide +kernel
theorem dX7_go_188 : decode cX7_go 188 = .ok (.invokestatic 131, 3) := by decide +kernel
theorem dX7_go_191 : decode cX7_go 191 = .ok (.ifCond .ne 17, 3) := by decide +kernel
theorem dX7_go_194 : decode cX7_go 194 = .ok (.aload_n 0, 1) := by decide +kernel
theorem dX7_go_195 : decode cX7_go 195 = .ok (.aload_n 0, 1) := by decide +kernel
theorem dX7_go_196 : decode cX7_go 196 = .ok (.getfield 119, 3) := by decide +kernel
theorem dX7_go_199 : decode cX7_go 199 = .ok (.invokevirtual 145, 3) := by decide +kernel
theorem dX7_go_202 : decode cX7_go 202 = .ok (.invokestatic 135, 3) := by decide +kernel
theorem dX7_go_205 : decode cX7_go 205 = .ok (.ifCond .eq 116, 3) := by decide +kernel
theorem dX7_go_208 : decode cX7_go 208 = .ok (.aload_n 0, 1) := by decide +kernel
theorem dX7_go_209 : decode cX7_go 209 = .ok (.getfield 7, 3) := by decide +kernel
theorem dX7_go_212 : decode cX7_go 212 = .ok (.aload_n 0, 1) := by decide +kernel
theorem dX7_go_213 : decode cX7_go 213 = .ok (.getfield 119, 3) := by decide +kernel
theorem dX7_go_216 : decode cX7_go 216 = .ok (.iaload, 1) := by decide +kernel
theorem dX7_go_217 : decode cX7_go 217 = .ok (.istore 4, 2) := by decide +kernel
theorem dX7_go_219 : decode cX7_go 219 = .ok (.iload_n 3, 1) := by decide +kernel
theorem dX7_go_220 : decode cX7_go 220 = .ok (.ifCond .eq 16, 3) := by decide +kernel
theorem dX7_go_223 : decode cX7_go 223 = .ok (.iload 4, 2) := by decide +kernel
theorem dX7_go_225 : decode cX7_go 225 = .ok (.invokestatic 131, 3) := by decide +kernel
theorem dX7_go_228 : decode cX7_go 228 = .ok (.iload_n 2, 1) := by decide +kernel
theorem dX7_go_229 : decode cX7_go 229 = .ok (.if_icmp .ne 7, 3) := by decide +kernel
theorem dX7_go_232 : decode cX7_go 232 = .ok (.iconst 1, 1) := by decide +kernel
theorem dX7_go_233 : decode cX7_go 233 = .ok (.goto 4, 3) := by decide +kernel
theorem dX7_go_236 : decode cX7_go 236 = .ok (.iconst 0, 1) := by decide +kernel
theorem dX7_go_237 : decode cX7_go 237 = .ok (.istore_n 3, 1) := by decide +kernel
theorem dX7_go_238 : decode cX7_go 238 = .ok (.aload_n 0, 1) := by decide +kernel
theorem dX7_go_239 : decode cX7_go 239 = .ok (.aload_n 0, 1) := by decide +kernel
theorem dX7_go_240 : decode cX7_go 240 = .ok (.getfield 119, 3) := by decide +kernel
theorem dX7_go_243 : decode cX7_go 243 = .ok (.aload_n 0, 1) := by decide +kernel
theorem dX7_go_244 : decode cX7_go 244 = .ok (.getfield 122, 3) := by decide +kernel
theorem dX7_go_247 : decode cX7_go 247 = .ok (.isub, 1) := by decide +kernel
theorem dX7_go_248 : decode cX7_go 248 = .ok (.bipush 7, 2) := by decide +kernel
theorem dX7_go_250 : decode cX7_go 250 = .ok (.if_icmp .ge 22, 3) := by decide +kernel
theorem dX7_go_253 : decode cX7_go 253 = .ok (.ldc2_w 149, 3) := by decide +kernel
theorem dX7_go_256 : decode cX7_go 256 = .ok (.aload_n 0, 1) := by decide +kernel
theorem dX7_go_257 : decode cX7_go 257 = .ok (.getfield 138, 3) := by decide +kernel
theorem dX7_go_260 : decode cX7_go 260 = .ok (.lmul, 1) := by decide +kernel
theorem dX7_go_261 : decode cX7_go 261 = .ok (.iload 4, 2) := by decide +kernel
theorem dX7_go_263 : decode cX7_go 263 = .ok (.i2l, 1) := by decide +kernel
theorem dX7_go_264 : decode cX7_go 264 = .ok (.ladd, 1) := by decide +kernel
theorem dX7_go_265 : decode cX7_go 265 = .ok (.ldc2_w 151, 3) := by decide +kernel
theorem dX7_go_268 : decode cX7_go 268 = .ok (.lsub, 1) := by decide +kernel
theorem dX7_go_269 : decode cX7_go 269 = .ok (.goto 6, 3) := by decide +kernel
theorem dX7_go_272 : decode cX7_go 272 = .ok (.ldc2_w 153, 3) := by decide +kernel
theorem dX7_go_275 : decode cX7_go 275 = .ok (.putfield 138, 3) := by decide +kernel
theorem dX7_go_278 : decode cX7_go 278 = .ok (.aload_n 0, 1) := by decide +kernel
theorem dX7_go_279 : decode cX7_go 279 = .ok (.getfield 119, 3) := by decide +kernel
theorem dX7_go_282 : decode cX7_go 282 = .ok (.aload_n 0, 1) := by decide +kernel
theorem dX7_go_283 : decode cX7_go 283 = .ok (.getfield 122, 3) := by decide +kernel
theorem dX7_go_286 : decode cX7_go 286 = .ok (.isub, 1) := by decide +kernel
