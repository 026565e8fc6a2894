theorem dX7_init_0 : decode cX7_init 0 = .ok (.aload_n 0, 1) := by decide +kernel
theorem dX7_init_1 : decode cX7_init 1 = .ok (.invokespecial 3, 3) := by decide +kernel
theorem dX7_init_4 : decode cX7_init 4 = .ok (.aload_n 0, 1) := by decide +kernel
theorem dX7_init_5 : decode cX7_init 5 = .ok (.new 9, 3) := by decide +kernel
theorem dX7_init_8 : decode cX7_init 8 = .ok (.dup, 1) := by decide +kernel
theorem dX7_init_9 : decode cX7_init 9 = .ok (.bipush 40, 2) := by decide +kernel
theorem dX7_init_11 : decode cX7_init 11 = .ok (.invokespecial 11, 3) := by decide +kernel
theorem dX7_init_14 : decode cX7_init 14 = .ok (.putfield 14, 3) := by decide +kernel
theorem dX7_init_17 : decode cX7_init 17 = .ok (.aload_n 0, 1) := by decide +kernel
theorem dX7_init_18 : decode cX7_init 18 = .ok (.new 9, 3) := by decide +kernel
theorem dX7_init_21 : decode cX7_init 21 = .ok (.dup, 1) := by decide +kernel
theorem dX7_init_22 : decode cX7_init 22 = .ok (.bipush 40, 2) := by decide +kernel
theorem dX7_init_24 : decode cX7_init 24 = .ok (.invokespecial 11, 3) := by decide +kernel
theorem dX7_init_27 : decode cX7_init 27 = .ok (.putfield 18, 3) := by decide +kernel
theorem dX7_init_30 : decode cX7_init 30 = .ok (.new 9, 3) := by decide +kernel
theorem dX7_init_33 : decode cX7_init 33 = .ok (.dup, 1) := by decide +kernel
theorem dX7_init_34 : decode cX7_init 34 = .ok (.iconst 0, 1) := by decide +kernel
theorem dX7_init_35 : decode cX7_init 35 = .ok (.invokespecial 11, 3) := by decide +kernel
theorem dX7_init_38 : decode cX7_init 38 = .ok (.astore_n 1, 1) := by decide +kernel
theorem dX7_init_39 : decode cX7_init 39 = .ok (.aload_n 0, 1) := by decide +kernel
theorem dX7_init_40 : decode cX7_init 40 = .ok (.new 21, 3) := by decide +kernel
theorem dX7_init_43 : decode cX7_init 43 = .ok (.dup, 1) := by decide +kernel
theorem dX7_init_44 : decode cX7_init 44 = .ok (.aload_n 1, 1) := by decide +kernel
theorem dX7_init_45 : decode cX7_init 45 = .ok (.invokespecial 23, 3) := by decide +kernel
theorem dX7_init_48 : decode cX7_init 48 = .ok (.putfield 26, 3) := by decide +kernel
theorem dX7_init_51 : decode cX7_init 51 = .ok (.aload_n 0, 1) := by decide +kernel
theorem dX7_init_52 : decode cX7_init 52 = .ok (.iconst 2, 1) := by decide +kernel
theorem dX7_init_53 : decode cX7_init 53 = .ok (.anewarray 21, 3) := by decide +kernel
theorem dX7_init_56 : decode cX7_init 56 = .ok (.putfield 30, 3) := by decide +kernel
theorem dX7_init_59 : decode cX7_init 59 = .ok (.iconst 0, 1) := by decide +kernel
theorem dX7_init_60 : decode cX7_init 60 = .ok (.istore_n 2, 1) := by decide +kernel
theorem dX7_init_61 : decode cX7_init 61 = .ok (.iload_n 2, 1) := by decide +kernel
theorem dX7_init_62 : decode cX7_init 62 = .ok (.iconst 2, 1) := by decide +kernel
theorem dX7_init_63 : decode cX7_init 63 = .ok (.if_icmp .ge 23, 3) := by decide +kernel
theorem dX7_init_66 : decode cX7_init 66 = .ok (.aload_n 0, 1) := by decide +kernel
theorem dX7_init_67 : decode cX7_init 67 = .ok (.getfield 30, 3) := by decide +kernel
theorem dX7_init_70 : decode cX7_init 70 = .ok (.iload_n 2, 1) := by decide +kernel
theorem dX7_init_71 : decode cX7_init 71 = .ok (.new 21, 3) := by decide +kernel
theorem dX7_init_74 : decode cX7_init 74 = .ok (.dup, 1) := by decide +kernel
theorem dX7_init_75 : decode cX7_init 75 = .ok (.aload_n 1, 1) := by decide +kernel
theorem dX7_init_76 : decode cX7_init 76 = .ok (.invokespecial 23, 3) := by decide +kernel
theorem dX7_init_79 : decode cX7_init 79 = .ok (.aastore, 1) := by decide +kernel
theorem dX7_init_80 : decode cX7_init 80 = .ok (.iinc 2 1, 3) := by decide +kernel
theorem dX7_init_83 : decode cX7_init 83 = .ok (.goto (-22), 3) := by decide +kernel
theorem dX7_init_86 : decode cX7_init 86 = .ok (.aload_n 0, 1) := by decide +kernel
theorem dX7_init_87 : decode cX7_init 87 = .ok (.iconst 2, 1) := by decide +kernel
theorem dX7_init_88 : decode cX7_init 88 = .ok (.newarray .boolean, 2) := by decide +kernel
theorem dX7_init_90 : decode cX7_init 90 = .ok (.putfield 34, 3) := by decide +kernel
theorem dX7_init_93 : decode cX7_init 93 = .ok (.aload_n 0, 1) := by decide +kernel
theorem dX7_init_94 : decode cX7_init 94 = .ok (.new 38, 3) := by decide +kernel
theorem dX7_init_97 : decode cX7_init 97 = .ok (.dup, 1) := by decide +kernel
theorem dX7_init_98 : decode cX7_init 98 = .ok (.aload_n 1, 1) := by decide +kernel
theorem dX7_init_99 : decode cX7_init 99 = .ok (.invokespecial 40, 3) := by decide +kernel
theorem dX7_init_102 : decode cX7_init 102 = .ok (.putfield 41, 3) := by decide +kernel
theorem dX7_init_105 : decode cX7_init 105 = .ok (.aload_n 0, 1) := by decide +kernel
theorem dX7_init_106 : decode cX7_init 106 = .ok (.new 45, 3) := by decide +kernel
theorem dX7_init_109 : decode cX7_init 109 = .ok (.dup, 1) := by decide +kernel
theorem dX7_init_110 : decode cX7_init 110 = .ok (.aload_n 0, 1) := by decide +kernel
theorem dX7_init_111 : decode cX7_init 111 = .ok (.getfield 26, 3) := by decide +kernel
theorem dX7_init_114 : decode cX7_init 114 = .ok (.aload_n 0, 1) := by decide +kernel
theorem dX7_init_115 : decode cX7_init 115 = .ok (.getfield 41, 3) := by decide +kernel
theorem dX7_init_118 : decode cX7_init 118 = .ok (.invokespecial 47, 3) := by decide +kernel
theorem dX7_init_121 : decode cX7_init 121 = .ok (.putfield 50, 3) := by decide +kernel
theorem dX7_init_124 : decode cX7_init 124 = .ok (.aload_n 0, 1) := by decide +kernel
theorem dX7_init_125 : decode cX7_init 125 = .ok (.new 54, 3) := by decide +kernel
theorem dX7_init_128 : decode cX7_init 128 = .ok (.dup, 1) := by decide +kernel
theorem dX7_init_129 : decode cX7_init 129 = .ok (.aload_n 0, 1) := by decide +kernel
theorem dX7_init_130 : decode cX7_init 130 = .ok (.getfield 26, 3) := by decide +kernel
theorem dX7_init_133 : decode cX7_init 133 = .ok (.aload_n 0, 1) := by decide +kernel
theorem dX7_init_134 : decode cX7_init 134 = .ok (.getfield 50, 3) := by decide +kernel
theorem dX7_init_137 : decode cX7_init 137 = .ok (.aload_n 0, 1) := by decide +kernel
theorem dX7_init_138 : decode cX7_init 138 = .ok (.getfield 41, 3) := by decide +kernel
theorem dX7_init_141 : decode cX7_init 141 = .ok (.aload_n 0, 1) := by decide +kernel
theorem dX7_init_142 : decode cX7_init 142 = .ok (.getfield 18, 3) := by decide +kernel
theorem dX7_init_145 : decode cX7_init 145 = .ok (.invokespecial 56, 3) := by decide +kernel
theorem dX7_init_148 : decode cX7_init 148 = .ok (.putfield 59, 3) := by decide +kernel
theorem dX7_init_151 : decode cX7_init 151 = .ok (.aload_n 0, 1) := by decide +kernel
theorem dX7_init_152 : decode cX7_init 152 = .ok (.new 63, 3) := by decide +kernel
theorem dX7_init_155 : decode cX7_init 155 = .ok (.dup, 1) := by decide +kernel
theorem dX7_init_156 : decode cX7_init 156 = .ok (.invokespecial 65, 3) := by decide +kernel
theorem dX7_init_159 : decode cX7_init 159 = .ok (.putfield 66, 3) := by decide +kernel
theorem dX7_init_162 : decode cX7_init 162 = .ok (.return_, 1) := by decide +kernel
theorem dX7_say_0 : decode cX7_say 0 = .ok (.iload_n 1, 1) := by decide +kernel
theorem dX7_say_1 : decode cX7_say 1 = .ok (.bipush 33, 2) := by decide +kernel
theorem dX7_say_3 : decode cX7_say 3 = .ok (.if_icmp .lt 9, 3) := by decide +kernel
theorem dX7_say_6 : decode cX7_say 6 = .ok (.iload_n 1, 1) := by decide +kernel
theorem dX7_say_7 : decode cX7_say 7 = .ok (.bipush 126, 2) := by decide +kernel
theorem dX7_say_9 : decode cX7_say 9 = .ok (.if_icmp .le 6, 3) := by decide +kernel
theorem dX7_say_12 : decode cX7_say 12 = .ok (.bipush (-2), 2) := by decide +kernel
theorem dX7_say_14 : decode cX7_say 14 = .ok (.ireturn, 1) := by decide +kernel
theorem dX7_say_15 : decode cX7_say 15 = .ok (.aload_n 0, 1) := by decide +kernel
theorem dX7_say_16 : decode cX7_say 16 = .ok (.getfield 14, 3) := by decide +kernel
theorem dX7_say_19 : decode cX7_say 19 = .ok (.invokevirtual 70, 3) := by decide +kernel
theorem dX7_say_22 : decode cX7_say 22 = .ok (.bipush 40, 2) := by decide +kernel
theorem dX7_say_24 : decode cX7_say 24 = .ok (.if_icmp .lt 6, 3) := by decide +kernel
theorem dX7_say_27 : decode cX7_say 27 = .ok (.bipush (-4), 2) := by decide +kernel
theorem dX7_say_29 : decode cX7_say 29 = .ok (.ireturn, 1) := by decide +kernel
theorem dX7_say_30 : decode cX7_say 30 = .ok (.aload_n 0, 1) := by decide +kernel
theorem dX7_say_31 : decode cX7_say 31 = .ok (.getfield 14, 3) := by decide +kernel
theorem dX7_say_34 : decode cX7_say 34 = .ok (.iload_n 1, 1) := by decide +kernel
theorem dX7_say_35 : decode cX7_say 35 = .ok (.invokevirtual 74, 3) := by decide +kernel
theorem dX7_say_38 : decode cX7_say 38 = .ok (.aload_n 0, 1) := by decide +kernel
theorem dX7_say_39 : decode cX7_say 39 = .ok (.getfield 14, 3) := by decide +kernel
theorem dX7_say_42 : decode cX7_say 42 = .ok (.invokevirtual 70, 3) := by decide +kernel
theorem dX7_say_45 : decode cX7_say 45 = .ok (.ireturn, 1) := by decide +kernel
theorem dX7_wipe_0 : decode cX7_wipe 0 = .ok (.aload_n 0, 1) := by decide +kernel
theorem dX7_wipe_1 : decode cX7_wipe 1 = .ok (.getfield 14, 3) := by decide +kernel
theorem dX7_wipe_4 : decode cX7_wipe 4 = .ok (.invokevirtual 70, 3) := by decide +kernel
theorem dX7_wipe_7 : decode cX7_wipe 7 = .ok (.istore_n 1, 1) := by decide +kernel
theorem dX7_wipe_8 : decode cX7_wipe 8 = .ok (.aload_n 0, 1) := by decide +kernel
theorem dX7_wipe_9 : decode cX7_wipe 9 = .ok (.getfield 14, 3) := by decide +kernel
theorem dX7_wipe_12 : decode cX7_wipe 12 = .ok (.invokevirtual 77, 3) := by decide +kernel
theorem dX7_wipe_15 : decode cX7_wipe 15 = .ok (.iload_n 1, 1) := by decide +kernel
theorem dX7_wipe_16 : decode cX7_wipe 16 = .ok (.ireturn, 1) := by decide +kernel
theorem dX7_fault_0 : decode cX7_fault 0 = .ok (.aload_n 0, 1) := by decide +kernel
theorem dX7_fault_1 : decode cX7_fault 1 = .ok (.getfield 14, 3) := by decide +kernel
theorem dX7_fault_4 : decode cX7_fault 4 = .ok (.invokevirtual 80, 3) := by decide +kernel
theorem dX7_fault_7 : decode cX7_fault 7 = .ok (.ireturn, 1) := by decide +kernel
theorem dX7_version_0 : decode cX7_version 0 = .ok (.aload_n 0, 1) := by decide +kernel
theorem dX7_version_1 : decode cX7_version 1 = .ok (.getfield 26, 3) := by decide +kernel
theorem dX7_version_4 : decode cX7_version 4 = .ok (.invokevirtual 83, 3) := by decide +kernel
theorem dX7_version_7 : decode cX7_version 7 = .ok (.bipush 6, 2) := by decide +kernel
theorem dX7_version_9 : decode cX7_version 9 = .ok (.if_icmp .lt 6, 3) := by decide +kernel
theorem dX7_version_12 : decode cX7_version 12 = .ok (.bipush (-4), 2) := by decide +kernel
theorem dX7_version_14 : decode cX7_version 14 = .ok (.ireturn, 1) := by decide +kernel
theorem dX7_version_15 : decode cX7_version 15 = .ok (.aload_n 0, 1) := by decide +kernel
theorem dX7_version_16 : decode cX7_version 16 = .ok (.getfield 26, 3) := by decide +kernel
theorem dX7_version_19 : decode cX7_version 19 = .ok (.invokevirtual 86, 3) := by decide +kernel
theorem dX7_version_22 : decode cX7_version 22 = .ok (.ireturn, 1) := by decide +kernel
theorem dX7_word_0 : decode cX7_word 0 = .ok (.iload_n 1, 1) := by decide +kernel
theorem dX7_word_1 : decode cX7_word 1 = .ok (.invokestatic 89, 3) := by decide +kernel
theorem dX7_word_4 : decode cX7_word 4 = .ok (.ifCond .ne 5, 3) := by decide +kernel
theorem dX7_word_7 : decode cX7_word 7 = .ok (.iconst (-1), 1) := by decide +kernel
theorem dX7_word_8 : decode cX7_word 8 = .ok (.ireturn, 1) := by decide +kernel
theorem dX7_word_9 : decode cX7_word 9 = .ok (.aload_n 0, 1) := by decide +kernel
theorem dX7_word_10 : decode cX7_word 10 = .ok (.getfield 14, 3) := by decide +kernel
theorem dX7_word_13 : decode cX7_word 13 = .ok (.invokevirtual 70, 3) := by decide +kernel
theorem dX7_word_16 : decode cX7_word 16 = .ok (.istore_n 2, 1) := by decide +kernel
theorem dX7_word_17 : decode cX7_word 17 = .ok (.iload_n 2, 1) := by decide +kernel
theorem dX7_word_18 : decode cX7_word 18 = .ok (.ifCond .le 18, 3) := by decide +kernel
theorem dX7_word_21 : decode cX7_word 21 = .ok (.aload_n 0, 1) := by decide +kernel
theorem dX7_word_22 : decode cX7_word 22 = .ok (.getfield 14, 3) := by decide +kernel
theorem dX7_word_25 : decode cX7_word 25 = .ok (.invokevirtual 80, 3) := by decide +kernel
theorem dX7_word_28 : decode cX7_word 28 = .ok (.bipush (-6), 2) := by decide +kernel
theorem dX7_word_30 : decode cX7_word 30 = .ok (.if_icmp .eq 6, 3) := by decide +kernel
theorem dX7_word_33 : decode cX7_word 33 = .ok (.bipush (-5), 2) := by decide +kernel
theorem dX7_word_35 : decode cX7_word 35 = .ok (.ireturn, 1) := by decide +kernel
theorem dX7_word_36 : decode cX7_word 36 = .ok (.aload_n 0, 1) := by decide +kernel
theorem dX7_word_37 : decode cX7_word 37 = .ok (.getfield 26, 3) := by decide +kernel
theorem dX7_word_40 : decode cX7_word 40 = .ok (.iload_n 1, 1) := by decide +kernel
theorem dX7_word_41 : decode cX7_word 41 = .ok (.aload_n 0, 1) := by decide +kernel
theorem dX7_word_42 : decode cX7_word 42 = .ok (.getfield 14, 3) := by decide +kernel
theorem dX7_word_45 : decode cX7_word 45 = .ok (.invokevirtual 93, 3) := by decide +kernel
theorem dX7_word_48 : decode cX7_word 48 = .ok (.invokevirtual 97, 3) := by decide +kernel
theorem dX7_word_51 : decode cX7_word 51 = .ok (.aload_n 0, 1) := by decide +kernel
theorem dX7_word_52 : decode cX7_word 52 = .ok (.getfield 14, 3) := by decide +kernel
theorem dX7_word_55 : decode cX7_word 55 = .ok (.invokevirtual 77, 3) := by decide +kernel
theorem dX7_word_58 : decode cX7_word 58 = .ok (.aload_n 0, 1) := by decide +kernel
theorem dX7_word_59 : decode cX7_word 59 = .ok (.getfield 50, 3) := by decide +kernel
theorem dX7_word_62 : decode cX7_word 62 = .ok (.aload_n 0, 1) := by decide +kernel
theorem dX7_word_63 : decode cX7_word 63 = .ok (.getfield 26, 3) := by decide +kernel
theorem dX7_word_66 : decode cX7_word 66 = .ok (.invokevirtual 83, 3) := by decide +kernel
theorem dX7_word_69 : decode cX7_word 69 = .ok (.iconst 1, 1) := by decide +kernel
theorem dX7_word_70 : decode cX7_word 70 = .ok (.isub, 1) := by decide +kernel
theorem dX7_word_71 : decode cX7_word 71 = .ok (.invokevirtual 101, 3) := by decide +kernel
theorem dX7_word_74 : decode cX7_word 74 = .ok (.aload_n 0, 1) := by decide +kernel
theorem dX7_word_75 : decode cX7_word 75 = .ok (.getfield 59, 3) := by decide +kernel
theorem dX7_word_78 : decode cX7_word 78 = .ok (.invokevirtual 104, 3) := by decide +kernel
theorem dX7_word_81 : decode cX7_word 81 = .ok (.iload_n 2, 1) := by decide +kernel
theorem dX7_word_82 : decode cX7_word 82 = .ok (.ireturn, 1) := by decide +kernel
theorem dX7_written_0 : decode cX7_written 0 = .ok (.aload_n 0, 1) := by decide +kernel
theorem dX7_written_1 : decode cX7_written 1 = .ok (.getfield 26, 3) := by decide +kernel
theorem dX7_written_4 : decode cX7_written 4 = .ok (.iload_n 1, 1) := by decide +kernel
theorem dX7_written_5 : decode cX7_written 5 = .ok (.invokevirtual 106, 3) := by decide +kernel
theorem dX7_written_8 : decode cX7_written 8 = .ok (.ifCond .eq 10, 3) := by decide +kernel
theorem dX7_written_11 : decode cX7_written 11 = .ok (.iload_n 2, 1) := by decide +kernel
theorem dX7_written_12 : decode cX7_written 12 = .ok (.invokestatic 89, 3) := by decide +kernel
theorem dX7_written_15 : decode cX7_written 15 = .ok (.ifCond .ne 5, 3) := by decide +kernel
theorem dX7_written_18 : decode cX7_written 18 = .ok (.iconst (-1), 1) := by decide +kernel
theorem dX7_written_19 : decode cX7_written 19 = .ok (.ireturn, 1) := by decide +kernel
theorem dX7_written_20 : decode cX7_written 20 = .ok (.aload_n 0, 1) := by decide +kernel
theorem dX7_written_21 : decode cX7_written 21 = .ok (.getfield 26, 3) := by decide +kernel
theorem dX7_written_24 : decode cX7_written 24 = .ok (.iload_n 1, 1) := by decide +kernel
theorem dX7_written_25 : decode cX7_written 25 = .ok (.iload_n 2, 1) := by decide +kernel
theorem dX7_written_26 : decode cX7_written 26 = .ok (.invokevirtual 109, 3) := by decide +kernel
theorem dX7_written_29 : decode cX7_written 29 = .ok (.astore 4, 2) := by decide +kernel
theorem dX7_written_31 : decode cX7_written 31 = .ok (.iload_n 3, 1) := by decide +kernel
theorem dX7_written_32 : decode cX7_written 32 = .ok (.iconst (-1), 1) := by decide +kernel
theorem dX7_written_33 : decode cX7_written 33 = .ok (.if_icmp .ne 9, 3) := by decide +kernel
theorem dX7_written_36 : decode cX7_written 36 = .ok (.aload 4, 2) := by decide +kernel
theorem dX7_written_38 : decode cX7_written 38 = .ok (.invokevirtual 70, 3) := by decide +kernel
theorem dX7_written_41 : decode cX7_written 41 = .ok (.ireturn, 1) := by decide +kernel
theorem dX7_written_42 : decode cX7_written 42 = .ok (.iload_n 3, 1) := by decide +kernel
theorem dX7_written_43 : decode cX7_written 43 = .ok (.ifCond .lt 21, 3) := by decide +kernel
theorem dX7_written_46 : decode cX7_written 46 = .ok (.iload_n 3, 1) := by decide +kernel
theorem dX7_written_47 : decode cX7_written 47 = .ok (.aload 4, 2) := by decide +kernel
theorem dX7_written_49 : decode cX7_written 49 = .ok (.invokevirtual 70, 3) := by decide +kernel
theorem dX7_written_52 : decode cX7_written 52 = .ok (.if_icmp .ge 12, 3) := by decide +kernel
theorem dX7_written_55 : decode cX7_written 55 = .ok (.aload 4, 2) := by decide +kernel
theorem dX7_written_57 : decode cX7_written 57 = .ok (.iload_n 3, 1) := by decide +kernel
theorem dX7_written_58 : decode cX7_written 58 = .ok (.invokevirtual 113, 3) := by decide +kernel
theorem dX7_written_61 : decode cX7_written 61 = .ok (.goto 5, 3) := by decide +kernel
theorem dX7_written_64 : decode cX7_written 64 = .ok (.bipush (-6), 2) := by decide +kernel
theorem dX7_written_66 : decode cX7_written 66 = .ok (.ireturn, 1) := by decide +kernel
theorem dX7_comes_0 : decode cX7_comes 0 = .ok (.aload_n 0, 1) := by decide +kernel
theorem dX7_comes_1 : decode cX7_comes 1 = .ok (.getfield 26, 3) := by decide +kernel
theorem dX7_comes_4 : decode cX7_comes 4 = .ok (.iload_n 1, 1) := by decide +kernel
theorem dX7_comes_5 : decode cX7_comes 5 = .ok (.invokevirtual 106, 3) := by decide +kernel
theorem dX7_comes_8 : decode cX7_comes 8 = .ok (.ifCond .ne 5, 3) := by decide +kernel
theorem dX7_comes_11 : decode cX7_comes 11 = .ok (.iconst (-1), 1) := by decide +kernel
theorem dX7_comes_12 : decode cX7_comes 12 = .ok (.ireturn, 1) := by decide +kernel
theorem dX7_comes_13 : decode cX7_comes 13 = .ok (.iload_n 2, 1) := by decide +kernel
theorem dX7_comes_14 : decode cX7_comes 14 = .ok (.invokestatic 117, 3) := by decide +kernel
theorem dX7_comes_17 : decode cX7_comes 17 = .ok (.ifCond .ne 6, 3) := by decide +kernel
theorem dX7_comes_20 : decode cX7_comes 20 = .ok (.bipush (-2), 2) := by decide +kernel
theorem dX7_comes_22 : decode cX7_comes 22 = .ok (.ireturn, 1) := by decide +kernel
theorem dX7_comes_23 : decode cX7_comes 23 = .ok (.aload_n 0, 1) := by decide +kernel
theorem dX7_comes_24 : decode cX7_comes 24 = .ok (.getfield 14, 3) := by decide +kernel
theorem dX7_comes_27 : decode cX7_comes 27 = .ok (.invokevirtual 80, 3) := by decide +kernel
theorem dX7_comes_30 : decode cX7_comes 30 = .ok (.bipush (-6), 2) := by decide +kernel
theorem dX7_comes_32 : decode cX7_comes 32 = .ok (.if_icmp .eq 6, 3) := by decide +kernel
theorem dX7_comes_35 : decode cX7_comes 35 = .ok (.bipush (-5), 2) := by decide +kernel
theorem dX7_comes_37 : decode cX7_comes 37 = .ok (.ireturn, 1) := by decide +kernel
theorem dX7_comes_38 : decode cX7_comes 38 = .ok (.aload_n 0, 1) := by decide +kernel
theorem dX7_comes_39 : decode cX7_comes 39 = .ok (.getfield 41, 3) := by decide +kernel
theorem dX7_comes_42 : decode cX7_comes 42 = .ok (.aload_n 0, 1) := by decide +kernel
theorem dX7_comes_43 : decode cX7_comes 43 = .ok (.getfield 26, 3) := by decide +kernel
theorem dX7_comes_46 : decode cX7_comes 46 = .ok (.iload_n 1, 1) := by decide +kernel
theorem dX7_comes_47 : decode cX7_comes 47 = .ok (.invokevirtual 120, 3) := by decide +kernel
theorem dX7_comes_50 : decode cX7_comes 50 = .ok (.aload_n 0, 1) := by decide +kernel
theorem dX7_comes_51 : decode cX7_comes 51 = .ok (.getfield 41, 3) := by decide +kernel
theorem dX7_comes_54 : decode cX7_comes 54 = .ok (.aload_n 0, 1) := by decide +kernel
theorem dX7_comes_55 : decode cX7_comes 55 = .ok (.getfield 14, 3) := by decide +kernel
theorem dX7_comes_58 : decode cX7_comes 58 = .ok (.iload_n 2, 1) := by decide +kernel
theorem dX7_comes_59 : decode cX7_comes 59 = .ok (.invokevirtual 124, 3) := by decide +kernel
theorem dX7_comes_62 : decode cX7_comes 62 = .ok (.ireturn, 1) := by decide +kernel
theorem dX7_tells_0 : decode cX7_tells 0 = .ok (.iload_n 1, 1) := by decide +kernel
theorem dX7_tells_1 : decode cX7_tells 1 = .ok (.invokestatic 89, 3) := by decide +kernel
theorem dX7_tells_4 : decode cX7_tells 4 = .ok (.ifCond .ne 5, 3) := by decide +kernel
theorem dX7_tells_7 : decode cX7_tells 7 = .ok (.iconst (-1), 1) := by decide +kernel
theorem dX7_tells_8 : decode cX7_tells 8 = .ok (.ireturn, 1) := by decide +kernel
theorem dX7_tells_9 : decode cX7_tells 9 = .ok (.aload_n 0, 1) := by decide +kernel
theorem dX7_tells_10 : decode cX7_tells 10 = .ok (.getfield 26, 3) := by decide +kernel
theorem dX7_tells_13 : decode cX7_tells 13 = .ok (.invokevirtual 128, 3) := by decide +kernel
theorem dX7_tells_16 : decode cX7_tells 16 = .ok (.bipush 12, 2) := by decide +kernel
theorem dX7_tells_18 : decode cX7_tells 18 = .ok (.if_icmp .lt 6, 3) := by decide +kernel
theorem dX7_tells_21 : decode cX7_tells 21 = .ok (.bipush (-4), 2) := by decide +kernel
theorem dX7_tells_23 : decode cX7_tells 23 = .ok (.ireturn, 1) := by decide +kernel
theorem dX7_tells_24 : decode cX7_tells 24 = .ok (.aload_n 0, 1) := by decide +kernel
theorem dX7_tells_25 : decode cX7_tells 25 = .ok (.getfield 26, 3) := by decide +kernel
theorem dX7_tells_28 : decode cX7_tells 28 = .ok (.iload_n 1, 1) := by decide +kernel
theorem dX7_tells_29 : decode cX7_tells 29 = .ok (.invokevirtual 131, 3) := by decide +kernel
theorem dX7_tells_32 : decode cX7_tells 32 = .ok (.ireturn, 1) := by decide +kernel
theorem dX7_shows_0 : decode cX7_shows 0 = .ok (.iload_n 1, 1) := by decide +kernel
theorem dX7_shows_1 : decode cX7_shows 1 = .ok (.invokestatic 117, 3) := by decide +kernel
theorem dX7_shows_4 : decode cX7_shows 4 = .ok (.ifCond .ne 6, 3) := by decide +kernel
theorem dX7_shows_7 : decode cX7_shows 7 = .ok (.bipush (-2), 2) := by decide +kernel
theorem dX7_shows_9 : decode cX7_shows 9 = .ok (.ireturn, 1) := by decide +kernel
theorem dX7_shows_10 : decode cX7_shows 10 = .ok (.aload_n 0, 1) := by decide +kernel
theorem dX7_shows_11 : decode cX7_shows 11 = .ok (.getfield 26, 3) := by decide +kernel
theorem dX7_shows_14 : decode cX7_shows 14 = .ok (.invokevirtual 128, 3) := by decide +kernel
theorem dX7_shows_17 : decode cX7_shows 17 = .ok (.bipush 12, 2) := by decide +kernel
theorem dX7_shows_19 : decode cX7_shows 19 = .ok (.if_icmp .lt 6, 3) := by decide +kernel
theorem dX7_shows_22 : decode cX7_shows 22 = .ok (.bipush (-4), 2) := by decide +kernel
theorem dX7_shows_24 : decode cX7_shows 24 = .ok (.ireturn, 1) := by decide +kernel
theorem dX7_shows_25 : decode cX7_shows 25 = .ok (.aload_n 0, 1) := by decide +kernel
theorem dX7_shows_26 : decode cX7_shows 26 = .ok (.getfield 14, 3) := by decide +kernel
theorem dX7_shows_29 : decode cX7_shows 29 = .ok (.invokevirtual 80, 3) := by decide +kernel
theorem dX7_shows_32 : decode cX7_shows 32 = .ok (.bipush (-6), 2) := by decide +kernel
theorem dX7_shows_34 : decode cX7_shows 34 = .ok (.if_icmp .ne 15, 3) := by decide +kernel
theorem dX7_shows_37 : decode cX7_shows 37 = .ok (.aload_n 0, 1) := by decide +kernel
theorem dX7_shows_38 : decode cX7_shows 38 = .ok (.getfield 14, 3) := by decide +kernel
theorem dX7_shows_41 : decode cX7_shows 41 = .ok (.bipush 120, 2) := by decide +kernel
theorem dX7_shows_43 : decode cX7_shows 43 = .ok (.invokevirtual 134, 3) := by decide +kernel
theorem dX7_shows_46 : decode cX7_shows 46 = .ok (.ifCond .eq 6, 3) := by decide +kernel
theorem dX7_shows_49 : decode cX7_shows 49 = .ok (.bipush (-5), 2) := by decide +kernel
theorem dX7_shows_51 : decode cX7_shows 51 = .ok (.ireturn, 1) := by decide +kernel
theorem dX7_shows_52 : decode cX7_shows 52 = .ok (.aload_n 0, 1) := by decide +kernel
theorem dX7_shows_53 : decode cX7_shows 53 = .ok (.getfield 26, 3) := by decide +kernel
theorem dX7_shows_56 : decode cX7_shows 56 = .ok (.aload_n 0, 1) := by decide +kernel
theorem dX7_shows_57 : decode cX7_shows 57 = .ok (.getfield 14, 3) := by decide +kernel
theorem dX7_shows_60 : decode cX7_shows 60 = .ok (.invokevirtual 93, 3) := by decide +kernel
theorem dX7_shows_63 : decode cX7_shows 63 = .ok (.iload_n 1, 1) := by decide +kernel
theorem dX7_shows_64 : decode cX7_shows 64 = .ok (.invokevirtual 137, 3) := by decide +kernel
theorem dX7_shows_67 : decode cX7_shows 67 = .ok (.istore_n 2, 1) := by decide +kernel
theorem dX7_shows_68 : decode cX7_shows 68 = .ok (.aload_n 0, 1) := by decide +kernel
theorem dX7_shows_69 : decode cX7_shows 69 = .ok (.getfield 14, 3) := by decide +kernel
theorem dX7_shows_72 : decode cX7_shows 72 = .ok (.invokevirtual 77, 3) := by decide +kernel
theorem dX7_shows_75 : decode cX7_shows 75 = .ok (.aload_n 0, 1) := by decide +kernel
theorem dX7_shows_76 : decode cX7_shows 76 = .ok (.getfield 59, 3) := by decide +kernel
theorem dX7_shows_79 : decode cX7_shows 79 = .ok (.invokevirtual 104, 3) := by decide +kernel
theorem dX7_shows_82 : decode cX7_shows 82 = .ok (.iload_n 2, 1) := by decide +kernel
theorem dX7_shows_83 : decode cX7_shows 83 = .ok (.ireturn, 1) := by decide +kernel
theorem dX7_page_0 : decode cX7_page 0 = .ok (.aload_n 0, 1) := by decide +kernel
theorem dX7_page_1 : decode cX7_page 1 = .ok (.getfield 26, 3) := by decide +kernel
theorem dX7_page_4 : decode cX7_page 4 = .ok (.iload_n 1, 1) := by decide +kernel
theorem dX7_page_5 : decode cX7_page 5 = .ok (.invokevirtual 140, 3) := by decide +kernel
theorem dX7_page_8 : decode cX7_page 8 = .ok (.ifCond .ne 5, 3) := by decide +kernel
theorem dX7_page_11 : decode cX7_page 11 = .ok (.iconst (-1), 1) := by decide +kernel
theorem dX7_page_12 : decode cX7_page 12 = .ok (.ireturn, 1) := by decide +kernel
theorem dX7_page_13 : decode cX7_page 13 = .ok (.iload_n 2, 1) := by decide +kernel
theorem dX7_page_14 : decode cX7_page 14 = .ok (.tableswitch 85 0 3 #[30, 39, 64, 73], 30) := by decide +kernel
theorem dX7_page_44 : decode cX7_page 44 = .ok (.aload_n 0, 1) := by decide +kernel
theorem dX7_page_45 : decode cX7_page 45 = .ok (.getfield 26, 3) := by decide +kernel
theorem dX7_page_48 : decode cX7_page 48 = .ok (.iload_n 1, 1) := by decide +kernel
theorem dX7_page_49 : decode cX7_page 49 = .ok (.invokevirtual 143, 3) := by decide +kernel
theorem dX7_page_52 : decode cX7_page 52 = .ok (.ireturn, 1) := by decide +kernel
theorem dX7_page_53 : decode cX7_page 53 = .ok (.aload_n 0, 1) := by decide +kernel
theorem dX7_page_54 : decode cX7_page 54 = .ok (.getfield 26, 3) := by decide +kernel
theorem dX7_page_57 : decode cX7_page 57 = .ok (.iload_n 1, 1) := by decide +kernel
theorem dX7_page_58 : decode cX7_page 58 = .ok (.invokevirtual 146, 3) := by decide +kernel
theorem dX7_page_61 : decode cX7_page 61 = .ok (.ifCond .eq 14, 3) := by decide +kernel
theorem dX7_page_64 : decode cX7_page 64 = .ok (.aload_n 0, 1) := by decide +kernel
theorem dX7_page_65 : decode cX7_page 65 = .ok (.getfield 26, 3) := by decide +kernel
theorem dX7_page_68 : decode cX7_page 68 = .ok (.iload_n 1, 1) := by decide +kernel
theorem dX7_page_69 : decode cX7_page 69 = .ok (.invokevirtual 149, 3) := by decide +kernel
theorem dX7_page_72 : decode cX7_page 72 = .ok (.goto 5, 3) := by decide +kernel
theorem dX7_page_75 : decode cX7_page 75 = .ok (.bipush (-6), 2) := by decide +kernel
theorem dX7_page_77 : decode cX7_page 77 = .ok (.ireturn, 1) := by decide +kernel
theorem dX7_page_78 : decode cX7_page 78 = .ok (.aload_n 0, 1) := by decide +kernel
theorem dX7_page_79 : decode cX7_page 79 = .ok (.getfield 26, 3) := by decide +kernel
theorem dX7_page_82 : decode cX7_page 82 = .ok (.iload_n 1, 1) := by decide +kernel
theorem dX7_page_83 : decode cX7_page 83 = .ok (.invokevirtual 152, 3) := by decide +kernel
theorem dX7_page_86 : decode cX7_page 86 = .ok (.ireturn, 1) := by decide +kernel
theorem dX7_page_87 : decode cX7_page 87 = .ok (.aload_n 0, 1) := by decide +kernel
theorem dX7_page_88 : decode cX7_page 88 = .ok (.getfield 26, 3) := by decide +kernel
theorem dX7_page_91 : decode cX7_page 91 = .ok (.iload_n 1, 1) := by decide +kernel
theorem dX7_page_92 : decode cX7_page 92 = .ok (.invokevirtual 155, 3) := by decide +kernel
theorem dX7_page_95 : decode cX7_page 95 = .ok (.invokevirtual 70, 3) := by decide +kernel
theorem dX7_page_98 : decode cX7_page 98 = .ok (.ireturn, 1) := by decide +kernel
theorem dX7_page_99 : decode cX7_page 99 = .ok (.bipush (-2), 2) := by decide +kernel
theorem dX7_page_101 : decode cX7_page 101 = .ok (.ireturn, 1) := by decide +kernel
theorem dX7_held_0 : decode cX7_held 0 = .ok (.aload_n 0, 1) := by decide +kernel
theorem dX7_held_1 : decode cX7_held 1 = .ok (.getfield 26, 3) := by decide +kernel
theorem dX7_held_4 : decode cX7_held 4 = .ok (.iload_n 1, 1) := by decide +kernel
theorem dX7_held_5 : decode cX7_held 5 = .ok (.invokevirtual 146, 3) := by decide +kernel
theorem dX7_held_8 : decode cX7_held 8 = .ok (.ifCond .eq 14, 3) := by decide +kernel
theorem dX7_held_11 : decode cX7_held 11 = .ok (.aload_n 0, 1) := by decide +kernel
theorem dX7_held_12 : decode cX7_held 12 = .ok (.getfield 26, 3) := by decide +kernel
theorem dX7_held_15 : decode cX7_held 15 = .ok (.iload_n 2, 1) := by decide +kernel
theorem dX7_held_16 : decode cX7_held 16 = .ok (.invokevirtual 106, 3) := by decide +kernel
theorem dX7_held_19 : decode cX7_held 19 = .ok (.ifCond .ne 5, 3) := by decide +kernel
theorem dX7_held_22 : decode cX7_held 22 = .ok (.iconst (-1), 1) := by decide +kernel
theorem dX7_held_23 : decode cX7_held 23 = .ok (.ireturn, 1) := by decide +kernel
theorem dX7_held_24 : decode cX7_held 24 = .ok (.aload_n 0, 1) := by decide +kernel
theorem dX7_held_25 : decode cX7_held 25 = .ok (.getfield 50, 3) := by decide +kernel
theorem dX7_held_28 : decode cX7_held 28 = .ok (.iload_n 1, 1) := by decide +kernel
theorem dX7_held_29 : decode cX7_held 29 = .ok (.iload_n 2, 1) := by decide +kernel
theorem dX7_held_30 : decode cX7_held 30 = .ok (.invokevirtual 159, 3) := by decide +kernel
theorem dX7_held_33 : decode cX7_held 33 = .ok (.iload_n 3, 1) := by decide +kernel
theorem dX7_held_34 : decode cX7_held 34 = .ok (.tableswitch 64 0 2 #[26, 36, 54], 26) := by decide +kernel
theorem dX7_held_60 : decode cX7_held 60 = .ok (.aload_n 0, 1) := by decide +kernel
theorem dX7_held_61 : decode cX7_held 61 = .ok (.getfield 50, 3) := by decide +kernel
theorem dX7_held_64 : decode cX7_held 64 = .ok (.iload_n 1, 1) := by decide +kernel
theorem dX7_held_65 : decode cX7_held 65 = .ok (.iload_n 2, 1) := by decide +kernel
theorem dX7_held_66 : decode cX7_held 66 = .ok (.invokevirtual 163, 3) := by decide +kernel
theorem dX7_held_69 : decode cX7_held 69 = .ok (.ireturn, 1) := by decide +kernel
theorem dX7_held_70 : decode cX7_held 70 = .ok (.aload_n 0, 1) := by decide +kernel
theorem dX7_held_71 : decode cX7_held 71 = .ok (.getfield 50, 3) := by decide +kernel
theorem dX7_held_74 : decode cX7_held 74 = .ok (.iload_n 1, 1) := by decide +kernel
theorem dX7_held_75 : decode cX7_held 75 = .ok (.iload_n 2, 1) := by decide +kernel
theorem dX7_held_76 : decode cX7_held 76 = .ok (.invokevirtual 167, 3) := by decide +kernel
theorem dX7_held_79 : decode cX7_held 79 = .ok (.ifCond .eq 7, 3) := by decide +kernel
theorem dX7_held_82 : decode cX7_held 82 = .ok (.iconst 1, 1) := by decide +kernel
theorem dX7_held_83 : decode cX7_held 83 = .ok (.goto 4, 3) := by decide +kernel
theorem dX7_held_86 : decode cX7_held 86 = .ok (.iconst 0, 1) := by decide +kernel
theorem dX7_held_87 : decode cX7_held 87 = .ok (.ireturn, 1) := by decide +kernel
theorem dX7_held_88 : decode cX7_held 88 = .ok (.aload_n 0, 1) := by decide +kernel
theorem dX7_held_89 : decode cX7_held 89 = .ok (.getfield 50, 3) := by decide +kernel
theorem dX7_held_92 : decode cX7_held 92 = .ok (.iload_n 1, 1) := by decide +kernel
theorem dX7_held_93 : decode cX7_held 93 = .ok (.iload_n 2, 1) := by decide +kernel
theorem dX7_held_94 : decode cX7_held 94 = .ok (.invokevirtual 171, 3) := by decide +kernel
theorem dX7_held_97 : decode cX7_held 97 = .ok (.ireturn, 1) := by decide +kernel
theorem dX7_held_98 : decode cX7_held 98 = .ok (.bipush (-2), 2) := by decide +kernel
theorem dX7_held_100 : decode cX7_held 100 = .ok (.ireturn, 1) := by decide +kernel
theorem dX7_stale_0 : decode cX7_stale 0 = .ok (.aload_n 0, 1) := by decide +kernel
theorem dX7_stale_1 : decode cX7_stale 1 = .ok (.getfield 26, 3) := by decide +kernel
theorem dX7_stale_4 : decode cX7_stale 4 = .ok (.iload_n 1, 1) := by decide +kernel
theorem dX7_stale_5 : decode cX7_stale 5 = .ok (.invokevirtual 146, 3) := by decide +kernel
theorem dX7_stale_8 : decode cX7_stale 8 = .ok (.ifCond .ne 5, 3) := by decide +kernel
theorem dX7_stale_11 : decode cX7_stale 11 = .ok (.iconst (-1), 1) := by decide +kernel
theorem dX7_stale_12 : decode cX7_stale 12 = .ok (.ireturn, 1) := by decide +kernel
theorem dX7_stale_13 : decode cX7_stale 13 = .ok (.iconst 0, 1) := by decide +kernel
theorem dX7_stale_14 : decode cX7_stale 14 = .ok (.istore_n 2, 1) := by decide +kernel
theorem dX7_stale_15 : decode cX7_stale 15 = .ok (.iconst 0, 1) := by decide +kernel
theorem dX7_stale_16 : decode cX7_stale 16 = .ok (.istore_n 3, 1) := by decide +kernel
theorem dX7_stale_17 : decode cX7_stale 17 = .ok (.iload_n 3, 1) := by decide +kernel
theorem dX7_stale_18 : decode cX7_stale 18 = .ok (.aload_n 0, 1) := by decide +kernel
theorem dX7_stale_19 : decode cX7_stale 19 = .ok (.getfield 26, 3) := by decide +kernel
theorem dX7_stale_22 : decode cX7_stale 22 = .ok (.invokevirtual 83, 3) := by decide +kernel
theorem dX7_stale_25 : decode cX7_stale 25 = .ok (.if_icmp .ge 43, 3) := by decide +kernel
theorem dX7_stale_28 : decode cX7_stale 28 = .ok (.aload_n 0, 1) := by decide +kernel
theorem dX7_stale_29 : decode cX7_stale 29 = .ok (.getfield 50, 3) := by decide +kernel
theorem dX7_stale_32 : decode cX7_stale 32 = .ok (.iload_n 1, 1) := by decide +kernel
theorem dX7_stale_33 : decode cX7_stale 33 = .ok (.iload_n 3, 1) := by decide +kernel
theorem dX7_stale_34 : decode cX7_stale 34 = .ok (.invokevirtual 159, 3) := by decide +kernel
theorem dX7_stale_37 : decode cX7_stale 37 = .ok (.aload_n 0, 1) := by decide +kernel
theorem dX7_stale_38 : decode cX7_stale 38 = .ok (.getfield 50, 3) := by decide +kernel
theorem dX7_stale_41 : decode cX7_stale 41 = .ok (.iload_n 1, 1) := by decide +kernel
theorem dX7_stale_42 : decode cX7_stale 42 = .ok (.iload_n 3, 1) := by decide +kernel
theorem dX7_stale_43 : decode cX7_stale 43 = .ok (.invokevirtual 167, 3) := by decide +kernel
theorem dX7_stale_46 : decode cX7_stale 46 = .ok (.istore 4, 2) := by decide +kernel
theorem dX7_stale_48 : decode cX7_stale 48 = .ok (.iload_n 2, 1) := by decide +kernel
theorem dX7_stale_49 : decode cX7_stale 49 = .ok (.ifCond .eq 10, 3) := by decide +kernel
theorem dX7_stale_52 : decode cX7_stale 52 = .ok (.iload 4, 2) := by decide +kernel
theorem dX7_stale_54 : decode cX7_stale 54 = .ok (.ifCond .ne 5, 3) := by decide +kernel
theorem dX7_stale_57 : decode cX7_stale 57 = .ok (.iload_n 3, 1) := by decide +kernel
theorem dX7_stale_58 : decode cX7_stale 58 = .ok (.ireturn, 1) := by decide +kernel
theorem dX7_stale_59 : decode cX7_stale 59 = .ok (.iload 4, 2) := by decide +kernel
theorem dX7_stale_61 : decode cX7_stale 61 = .ok (.istore_n 2, 1) := by decide +kernel
theorem dX7_stale_62 : decode cX7_stale 62 = .ok (.iinc 3 1, 3) := by decide +kernel
theorem dX7_stale_65 : decode cX7_stale 65 = .ok (.goto (-48), 3) := by decide +kernel
theorem dX7_stale_68 : decode cX7_stale 68 = .ok (.bipush (-6), 2) := by decide +kernel
theorem dX7_stale_70 : decode cX7_stale 70 = .ok (.ireturn, 1) := by decide +kernel
theorem dX7_blame_0 : decode cX7_blame 0 = .ok (.aload_n 0, 1) := by decide +kernel
theorem dX7_blame_1 : decode cX7_blame 1 = .ok (.getfield 26, 3) := by decide +kernel
theorem dX7_blame_4 : decode cX7_blame 4 = .ok (.iload_n 1, 1) := by decide +kernel
theorem dX7_blame_5 : decode cX7_blame 5 = .ok (.invokevirtual 146, 3) := by decide +kernel
theorem dX7_blame_8 : decode cX7_blame 8 = .ok (.ifCond .eq 14, 3) := by decide +kernel
theorem dX7_blame_11 : decode cX7_blame 11 = .ok (.aload_n 0, 1) := by decide +kernel
theorem dX7_blame_12 : decode cX7_blame 12 = .ok (.getfield 26, 3) := by decide +kernel
theorem dX7_blame_15 : decode cX7_blame 15 = .ok (.iload_n 2, 1) := by decide +kernel
theorem dX7_blame_16 : decode cX7_blame 16 = .ok (.invokevirtual 106, 3) := by decide +kernel
theorem dX7_blame_19 : decode cX7_blame 19 = .ok (.ifCond .ne 5, 3) := by decide +kernel
theorem dX7_blame_22 : decode cX7_blame 22 = .ok (.iconst (-1), 1) := by decide +kernel
theorem dX7_blame_23 : decode cX7_blame 23 = .ok (.ireturn, 1) := by decide +kernel
theorem dX7_blame_24 : decode cX7_blame 24 = .ok (.aload_n 0, 1) := by decide +kernel
theorem dX7_blame_25 : decode cX7_blame 25 = .ok (.getfield 50, 3) := by decide +kernel
theorem dX7_blame_28 : decode cX7_blame 28 = .ok (.iload_n 1, 1) := by decide +kernel
theorem dX7_blame_29 : decode cX7_blame 29 = .ok (.iload_n 2, 1) := by decide +kernel
theorem dX7_blame_30 : decode cX7_blame 30 = .ok (.invokevirtual 159, 3) := by decide +kernel
theorem dX7_blame_33 : decode cX7_blame 33 = .ok (.iload_n 2, 1) := by decide +kernel
theorem dX7_blame_34 : decode cX7_blame 34 = .ok (.ifCond .eq 15, 3) := by decide +kernel
theorem dX7_blame_37 : decode cX7_blame 37 = .ok (.aload_n 0, 1) := by decide +kernel
theorem dX7_blame_38 : decode cX7_blame 38 = .ok (.getfield 50, 3) := by decide +kernel
theorem dX7_blame_41 : decode cX7_blame 41 = .ok (.iload_n 1, 1) := by decide +kernel
theorem dX7_blame_42 : decode cX7_blame 42 = .ok (.iload_n 2, 1) := by decide +kernel
theorem dX7_blame_43 : decode cX7_blame 43 = .ok (.invokevirtual 167, 3) := by decide +kernel
theorem dX7_blame_46 : decode cX7_blame 46 = .ok (.ifCond .eq 6, 3) := by decide +kernel
theorem dX7_blame_49 : decode cX7_blame 49 = .ok (.bipush (-3), 2) := by decide +kernel
theorem dX7_blame_51 : decode cX7_blame 51 = .ok (.ireturn, 1) := by decide +kernel
theorem dX7_blame_52 : decode cX7_blame 52 = .ok (.aload_n 0, 1) := by decide +kernel
theorem dX7_blame_53 : decode cX7_blame 53 = .ok (.getfield 26, 3) := by decide +kernel
theorem dX7_blame_56 : decode cX7_blame 56 = .ok (.iload_n 2, 1) := by decide +kernel
theorem dX7_blame_57 : decode cX7_blame 57 = .ok (.invokevirtual 174, 3) := by decide +kernel
theorem dX7_blame_60 : decode cX7_blame 60 = .ok (.istore_n 3, 1) := by decide +kernel
theorem dX7_blame_61 : decode cX7_blame 61 = .ok (.bipush (-5), 2) := by decide +kernel
theorem dX7_blame_63 : decode cX7_blame 63 = .ok (.istore 4, 2) := by decide +kernel
theorem dX7_blame_65 : decode cX7_blame 65 = .ok (.bipush 9, 2) := by decide +kernel
theorem dX7_blame_67 : decode cX7_blame 67 = .ok (.istore 5, 2) := by decide +kernel
theorem dX7_blame_69 : decode cX7_blame 69 = .ok (.iconst 1, 1) := by decide +kernel
theorem dX7_blame_70 : decode cX7_blame 70 = .ok (.istore 6, 2) := by decide +kernel
theorem dX7_blame_72 : decode cX7_blame 72 = .ok (.iload 6, 2) := by decide +kernel
theorem dX7_blame_74 : decode cX7_blame 74 = .ok (.sipush 256, 3) := by decide +kernel
theorem dX7_blame_77 : decode cX7_blame 77 = .ok (.if_icmp .ge 51, 3) := by decide +kernel
theorem dX7_blame_80 : decode cX7_blame 80 = .ok (.iload 6, 2) := by decide +kernel
theorem dX7_blame_82 : decode cX7_blame 82 = .ok (.invokestatic 177, 3) := by decide +kernel
theorem dX7_blame_85 : decode cX7_blame 85 = .ok (.istore 7, 2) := by decide +kernel
theorem dX7_blame_87 : decode cX7_blame 87 = .ok (.iload 6, 2) := by decide +kernel
theorem dX7_blame_89 : decode cX7_blame 89 = .ok (.iload_n 3, 1) := by decide +kernel
theorem dX7_blame_90 : decode cX7_blame 90 = .ok (.iconst (-1), 1) := by decide +kernel
theorem dX7_blame_91 : decode cX7_blame 91 = .ok (.ixor, 1) := by decide +kernel
theorem dX7_blame_92 : decode cX7_blame 92 = .ok (.iand, 1) := by decide +kernel
theorem dX7_blame_93 : decode cX7_blame 93 = .ok (.ifCond .ne 29, 3) := by decide +kernel
theorem dX7_blame_96 : decode cX7_blame 96 = .ok (.iload 7, 2) := by decide +kernel
theorem dX7_blame_98 : decode cX7_blame 98 = .ok (.iload 5, 2) := by decide +kernel
theorem dX7_blame_100 : decode cX7_blame 100 = .ok (.if_icmp .ge 22, 3) := by decide +kernel
theorem dX7_blame_103 : decode cX7_blame 103 = .ok (.aload_n 0, 1) := by decide +kernel
theorem dX7_blame_104 : decode cX7_blame 104 = .ok (.iload_n 1, 1) := by decide +kernel
theorem dX7_blame_105 : decode cX7_blame 105 = .ok (.iload_n 2, 1) := by decide +kernel
theorem dX7_blame_106 : decode cX7_blame 106 = .ok (.iload 6, 2) := by decide +kernel
theorem dX7_blame_108 : decode cX7_blame 108 = .ok (.invokevirtual 182, 3) := by decide +kernel
theorem dX7_blame_111 : decode cX7_blame 111 = .ok (.ifCond .eq 11, 3) := by decide +kernel
theorem dX7_blame_114 : decode cX7_blame 114 = .ok (.iload 6, 2) := by decide +kernel
theorem dX7_blame_116 : decode cX7_blame 116 = .ok (.istore 4, 2) := by decide +kernel
theorem dX7_blame_118 : decode cX7_blame 118 = .ok (.iload 7, 2) := by decide +kernel
theorem dX7_blame_120 : decode cX7_blame 120 = .ok (.istore 5, 2) := by decide +kernel
theorem dX7_blame_122 : decode cX7_blame 122 = .ok (.iinc 6 1, 3) := by decide +kernel
theorem dX7_blame_125 : decode cX7_blame 125 = .ok (.goto (-53), 3) := by decide +kernel
theorem dX7_blame_128 : decode cX7_blame 128 = .ok (.iload 4, 2) := by decide +kernel
theorem dX7_blame_130 : decode cX7_blame 130 = .ok (.ireturn, 1) := by decide +kernel
theorem dX7_order_0 : decode cX7_order 0 = .ok (.iload_n 1, 1) := by decide +kernel
theorem dX7_order_1 : decode cX7_order 1 = .ok (.iconst (-1), 1) := by decide +kernel
theorem dX7_order_2 : decode cX7_order 2 = .ok (.if_icmp .ne 8, 3) := by decide +kernel
theorem dX7_order_5 : decode cX7_order 5 = .ok (.aload_n 0, 1) := by decide +kernel
theorem dX7_order_6 : decode cX7_order 6 = .ok (.invokevirtual 186, 3) := by decide +kernel
theorem dX7_order_9 : decode cX7_order 9 = .ok (.ireturn, 1) := by decide +kernel
theorem dX7_order_10 : decode cX7_order 10 = .ok (.iload_n 1, 1) := by decide +kernel
theorem dX7_order_11 : decode cX7_order 11 = .ok (.bipush (-2), 2) := by decide +kernel
theorem dX7_order_13 : decode cX7_order 13 = .ok (.if_icmp .ne 8, 3) := by decide +kernel
theorem dX7_order_16 : decode cX7_order 16 = .ok (.aload_n 0, 1) := by decide +kernel
theorem dX7_order_17 : decode cX7_order 17 = .ok (.invokevirtual 189, 3) := by decide +kernel
theorem dX7_order_20 : decode cX7_order 20 = .ok (.ireturn, 1) := by decide +kernel
theorem dX7_order_21 : decode cX7_order 21 = .ok (.iload_n 1, 1) := by decide +kernel
theorem dX7_order_22 : decode cX7_order 22 = .ok (.ifCond .lt 22, 3) := by decide +kernel
theorem dX7_order_25 : decode cX7_order 25 = .ok (.iload_n 1, 1) := by decide +kernel
theorem dX7_order_26 : decode cX7_order 26 = .ok (.aload_n 0, 1) := by decide +kernel
theorem dX7_order_27 : decode cX7_order 27 = .ok (.getfield 26, 3) := by decide +kernel
theorem dX7_order_30 : decode cX7_order 30 = .ok (.invokevirtual 128, 3) := by decide +kernel
theorem dX7_order_33 : decode cX7_order 33 = .ok (.if_icmp .ge 11, 3) := by decide +kernel
theorem dX7_order_36 : decode cX7_order 36 = .ok (.aload_n 0, 1) := by decide +kernel
theorem dX7_order_37 : decode cX7_order 37 = .ok (.iload_n 1, 1) := by decide +kernel
theorem dX7_order_38 : decode cX7_order 38 = .ok (.invokevirtual 192, 3) := by decide +kernel
theorem dX7_order_41 : decode cX7_order 41 = .ok (.goto 5, 3) := by decide +kernel
theorem dX7_order_44 : decode cX7_order 44 = .ok (.bipush (-6), 2) := by decide +kernel
theorem dX7_order_46 : decode cX7_order 46 = .ok (.ireturn, 1) := by decide +kernel
theorem dX7_cover_0 : decode cX7_cover 0 = .ok (.aload_n 0, 1) := by decide +kernel
theorem dX7_cover_1 : decode cX7_cover 1 = .ok (.getfield 26, 3) := by decide +kernel
theorem dX7_cover_4 : decode cX7_cover 4 = .ok (.iload_n 1, 1) := by decide +kernel
theorem dX7_cover_5 : decode cX7_cover 5 = .ok (.invokevirtual 106, 3) := by decide +kernel
theorem dX7_cover_8 : decode cX7_cover 8 = .ok (.ifCond .ne 5, 3) := by decide +kernel
theorem dX7_cover_11 : decode cX7_cover 11 = .ok (.iconst (-1), 1) := by decide +kernel
theorem dX7_cover_12 : decode cX7_cover 12 = .ok (.ireturn, 1) := by decide +kernel
theorem dX7_cover_13 : decode cX7_cover 13 = .ok (.aload_n 0, 1) := by decide +kernel
theorem dX7_cover_14 : decode cX7_cover 14 = .ok (.getfield 50, 3) := by decide +kernel
theorem dX7_cover_17 : decode cX7_cover 17 = .ok (.iload_n 1, 1) := by decide +kernel
theorem dX7_cover_18 : decode cX7_cover 18 = .ok (.invokevirtual 195, 3) := by decide +kernel
theorem dX7_cover_21 : decode cX7_cover 21 = .ok (.aload_n 0, 1) := by decide +kernel
theorem dX7_cover_22 : decode cX7_cover 22 = .ok (.getfield 66, 3) := by decide +kernel
theorem dX7_cover_25 : decode cX7_cover 25 = .ok (.invokevirtual 198, 3) := by decide +kernel
theorem dX7_cover_28 : decode cX7_cover 28 = .ok (.iconst 0, 1) := by decide +kernel
theorem dX7_cover_29 : decode cX7_cover 29 = .ok (.istore_n 2, 1) := by decide +kernel
theorem dX7_cover_30 : decode cX7_cover 30 = .ok (.iload_n 2, 1) := by decide +kernel
theorem dX7_cover_31 : decode cX7_cover 31 = .ok (.bipush 8, 2) := by decide +kernel
theorem dX7_cover_33 : decode cX7_cover 33 = .ok (.if_icmp .ge 25, 3) := by decide +kernel
theorem dX7_cover_36 : decode cX7_cover 36 = .ok (.aload_n 0, 1) := by decide +kernel
theorem dX7_cover_37 : decode cX7_cover 37 = .ok (.getfield 66, 3) := by decide +kernel
theorem dX7_cover_40 : decode cX7_cover 40 = .ok (.aload_n 0, 1) := by decide +kernel
theorem dX7_cover_41 : decode cX7_cover 41 = .ok (.getfield 50, 3) := by decide +kernel
theorem dX7_cover_44 : decode cX7_cover 44 = .ok (.iload_n 2, 1) := by decide +kernel
theorem dX7_cover_45 : decode cX7_cover 45 = .ok (.iload_n 1, 1) := by decide +kernel
theorem dX7_cover_46 : decode cX7_cover 46 = .ok (.invokevirtual 199, 3) := by decide +kernel
theorem dX7_cover_49 : decode cX7_cover 49 = .ok (.invokevirtual 202, 3) := by decide +kernel
theorem dX7_cover_52 : decode cX7_cover 52 = .ok (.iinc 2 1, 3) := by decide +kernel
theorem dX7_cover_55 : decode cX7_cover 55 = .ok (.goto (-25), 3) := by decide +kernel
theorem dX7_cover_58 : decode cX7_cover 58 = .ok (.aload_n 0, 1) := by decide +kernel
theorem dX7_cover_59 : decode cX7_cover 59 = .ok (.getfield 66, 3) := by decide +kernel
theorem dX7_cover_62 : decode cX7_cover 62 = .ok (.aload_n 0, 1) := by decide +kernel
theorem dX7_cover_63 : decode cX7_cover 63 = .ok (.getfield 26, 3) := by decide +kernel
theorem dX7_cover_66 : decode cX7_cover 66 = .ok (.invokevirtual 128, 3) := by decide +kernel
theorem dX7_cover_69 : decode cX7_cover 69 = .ok (.invokevirtual 203, 3) := by decide +kernel
theorem dX7_cover_72 : decode cX7_cover 72 = .ok (.ireturn, 1) := by decide +kernel
theorem dX7_apart_0 : decode cX7_apart 0 = .ok (.iconst 0, 1) := by decide +kernel
theorem dX7_apart_1 : decode cX7_apart 1 = .ok (.istore_n 1, 1) := by decide +kernel
theorem dX7_apart_2 : decode cX7_apart 2 = .ok (.iload_n 1, 1) := by decide +kernel
theorem dX7_apart_3 : decode cX7_apart 3 = .ok (.aload_n 0, 1) := by decide +kernel
theorem dX7_apart_4 : decode cX7_apart 4 = .ok (.getfield 26, 3) := by decide +kernel
theorem dX7_apart_7 : decode cX7_apart 7 = .ok (.invokevirtual 83, 3) := by decide +kernel
theorem dX7_apart_10 : decode cX7_apart 10 = .ok (.if_icmp .ge 17, 3) := by decide +kernel
theorem dX7_apart_13 : decode cX7_apart 13 = .ok (.aload_n 0, 1) := by decide +kernel
theorem dX7_apart_14 : decode cX7_apart 14 = .ok (.getfield 50, 3) := by decide +kernel
theorem dX7_apart_17 : decode cX7_apart 17 = .ok (.iload_n 1, 1) := by decide +kernel
theorem dX7_apart_18 : decode cX7_apart 18 = .ok (.invokevirtual 195, 3) := by decide +kernel
theorem dX7_apart_21 : decode cX7_apart 21 = .ok (.iinc 1 1, 3) := by decide +kernel
theorem dX7_apart_24 : decode cX7_apart 24 = .ok (.goto (-22), 3) := by decide +kernel
theorem dX7_apart_27 : decode cX7_apart 27 = .ok (.aload_n 0, 1) := by decide +kernel
theorem dX7_apart_28 : decode cX7_apart 28 = .ok (.getfield 66, 3) := by decide +kernel
theorem dX7_apart_31 : decode cX7_apart 31 = .ok (.invokevirtual 198, 3) := by decide +kernel
theorem dX7_apart_34 : decode cX7_apart 34 = .ok (.iconst 0, 1) := by decide +kernel
theorem dX7_apart_35 : decode cX7_apart 35 = .ok (.istore_n 1, 1) := by decide +kernel
theorem dX7_apart_36 : decode cX7_apart 36 = .ok (.iload_n 1, 1) := by decide +kernel
theorem dX7_apart_37 : decode cX7_apart 37 = .ok (.aload_n 0, 1) := by decide +kernel
theorem dX7_apart_38 : decode cX7_apart 38 = .ok (.getfield 26, 3) := by decide +kernel
theorem dX7_apart_41 : decode cX7_apart 41 = .ok (.invokevirtual 83, 3) := by decide +kernel
theorem dX7_apart_44 : decode cX7_apart 44 = .ok (.if_icmp .ge 54, 3) := by decide +kernel
theorem dX7_apart_47 : decode cX7_apart 47 = .ok (.iload_n 1, 1) := by decide +kernel
theorem dX7_apart_48 : decode cX7_apart 48 = .ok (.iconst 1, 1) := by decide +kernel
theorem dX7_apart_49 : decode cX7_apart 49 = .ok (.iadd, 1) := by decide +kernel
theorem dX7_apart_50 : decode cX7_apart 50 = .ok (.istore_n 2, 1) := by decide +kernel
theorem dX7_apart_51 : decode cX7_apart 51 = .ok (.iload_n 2, 1) := by decide +kernel
theorem dX7_apart_52 : decode cX7_apart 52 = .ok (.aload_n 0, 1) := by decide +kernel
theorem dX7_apart_53 : decode cX7_apart 53 = .ok (.getfield 26, 3) := by decide +kernel
theorem dX7_apart_56 : decode cX7_apart 56 = .ok (.invokevirtual 83, 3) := by decide +kernel
theorem dX7_apart_59 : decode cX7_apart 59 = .ok (.if_icmp .ge 33, 3) := by decide +kernel
theorem dX7_apart_62 : decode cX7_apart 62 = .ok (.aload_n 0, 1) := by decide +kernel
theorem dX7_apart_63 : decode cX7_apart 63 = .ok (.getfield 66, 3) := by decide +kernel
theorem dX7_apart_66 : decode cX7_apart 66 = .ok (.aload_n 0, 1) := by decide +kernel
theorem dX7_apart_67 : decode cX7_apart 67 = .ok (.getfield 50, 3) := by decide +kernel
theorem dX7_apart_70 : decode cX7_apart 70 = .ok (.iload_n 1, 1) := by decide +kernel
theorem dX7_apart_71 : decode cX7_apart 71 = .ok (.invokevirtual 206, 3) := by decide +kernel
theorem dX7_apart_74 : decode cX7_apart 74 = .ok (.aload_n 0, 1) := by decide +kernel
theorem dX7_apart_75 : decode cX7_apart 75 = .ok (.getfield 50, 3) := by decide +kernel
theorem dX7_apart_78 : decode cX7_apart 78 = .ok (.iload_n 2, 1) := by decide +kernel
theorem dX7_apart_79 : decode cX7_apart 79 = .ok (.invokevirtual 206, 3) := by decide +kernel
theorem dX7_apart_82 : decode cX7_apart 82 = .ok (.ixor, 1) := by decide +kernel
theorem dX7_apart_83 : decode cX7_apart 83 = .ok (.invokevirtual 202, 3) := by decide +kernel
theorem dX7_apart_86 : decode cX7_apart 86 = .ok (.iinc 2 1, 3) := by decide +kernel
theorem dX7_apart_89 : decode cX7_apart 89 = .ok (.goto (-38), 3) := by decide +kernel
theorem dX7_apart_92 : decode cX7_apart 92 = .ok (.iinc 1 1, 3) := by decide +kernel
theorem dX7_apart_95 : decode cX7_apart 95 = .ok (.goto (-59), 3) := by decide +kernel
theorem dX7_apart_98 : decode cX7_apart 98 = .ok (.aload_n 0, 1) := by decide +kernel
theorem dX7_apart_99 : decode cX7_apart 99 = .ok (.getfield 66, 3) := by decide +kernel
theorem dX7_apart_102 : decode cX7_apart 102 = .ok (.aload_n 0, 1) := by decide +kernel
theorem dX7_apart_103 : decode cX7_apart 103 = .ok (.getfield 26, 3) := by decide +kernel
theorem dX7_apart_106 : decode cX7_apart 106 = .ok (.invokevirtual 128, 3) := by decide +kernel
theorem dX7_apart_109 : decode cX7_apart 109 = .ok (.invokevirtual 203, 3) := by decide +kernel
theorem dX7_apart_112 : decode cX7_apart 112 = .ok (.ireturn, 1) := by decide +kernel
theorem dX7_slip_0 : decode cX7_slip 0 = .ok (.aload_n 0, 1) := by decide +kernel
theorem dX7_slip_1 : decode cX7_slip 1 = .ok (.getfield 26, 3) := by decide +kernel
theorem dX7_slip_4 : decode cX7_slip 4 = .ok (.iload_n 1, 1) := by decide +kernel
theorem dX7_slip_5 : decode cX7_slip 5 = .ok (.invokevirtual 106, 3) := by decide +kernel
theorem dX7_slip_8 : decode cX7_slip 8 = .ok (.ifCond .ne 5, 3) := by decide +kernel
theorem dX7_slip_11 : decode cX7_slip 11 = .ok (.iconst (-1), 1) := by decide +kernel
theorem dX7_slip_12 : decode cX7_slip 12 = .ok (.ireturn, 1) := by decide +kernel
theorem dX7_slip_13 : decode cX7_slip 13 = .ok (.aload_n 0, 1) := by decide +kernel
theorem dX7_slip_14 : decode cX7_slip 14 = .ok (.getfield 59, 3) := by decide +kernel
theorem dX7_slip_17 : decode cX7_slip 17 = .ok (.iload_n 1, 1) := by decide +kernel
theorem dX7_slip_18 : decode cX7_slip 18 = .ok (.invokevirtual 209, 3) := by decide +kernel
theorem dX7_slip_21 : decode cX7_slip 21 = .ok (.istore_n 3, 1) := by decide +kernel
theorem dX7_slip_22 : decode cX7_slip 22 = .ok (.iload_n 2, 1) := by decide +kernel
theorem dX7_slip_23 : decode cX7_slip 23 = .ok (.iconst (-1), 1) := by decide +kernel
theorem dX7_slip_24 : decode cX7_slip 24 = .ok (.if_icmp .ne 5, 3) := by decide +kernel
theorem dX7_slip_27 : decode cX7_slip 27 = .ok (.iload_n 3, 1) := by decide +kernel
theorem dX7_slip_28 : decode cX7_slip 28 = .ok (.ireturn, 1) := by decide +kernel
theorem dX7_slip_29 : decode cX7_slip 29 = .ok (.iload_n 2, 1) := by decide +kernel
theorem dX7_slip_30 : decode cX7_slip 30 = .ok (.ifCond .lt 19, 3) := by decide +kernel
theorem dX7_slip_33 : decode cX7_slip 33 = .ok (.iload_n 2, 1) := by decide +kernel
theorem dX7_slip_34 : decode cX7_slip 34 = .ok (.iload_n 3, 1) := by decide +kernel
theorem dX7_slip_35 : decode cX7_slip 35 = .ok (.if_icmp .ge 14, 3) := by decide +kernel
theorem dX7_slip_38 : decode cX7_slip 38 = .ok (.aload_n 0, 1) := by decide +kernel
theorem dX7_slip_39 : decode cX7_slip 39 = .ok (.getfield 59, 3) := by decide +kernel
theorem dX7_slip_42 : decode cX7_slip 42 = .ok (.iload_n 2, 1) := by decide +kernel
theorem dX7_slip_43 : decode cX7_slip 43 = .ok (.invokevirtual 212, 3) := by decide +kernel
theorem dX7_slip_46 : decode cX7_slip 46 = .ok (.goto 5, 3) := by decide +kernel
theorem dX7_slip_49 : decode cX7_slip 49 = .ok (.bipush (-6), 2) := by decide +kernel
theorem dX7_slip_51 : decode cX7_slip 51 = .ok (.ireturn, 1) := by decide +kernel
theorem dX7_noticed_0 : decode cX7_noticed 0 = .ok (.aload_n 0, 1) := by decide +kernel
theorem dX7_noticed_1 : decode cX7_noticed 1 = .ok (.getfield 26, 3) := by decide +kernel
theorem dX7_noticed_4 : decode cX7_noticed 4 = .ok (.iload_n 1, 1) := by decide +kernel
theorem dX7_noticed_5 : decode cX7_noticed 5 = .ok (.invokevirtual 106, 3) := by decide +kernel
theorem dX7_noticed_8 : decode cX7_noticed 8 = .ok (.ifCond .ne 5, 3) := by decide +kernel
theorem dX7_noticed_11 : decode cX7_noticed 11 = .ok (.iconst (-1), 1) := by decide +kernel
theorem dX7_noticed_12 : decode cX7_noticed 12 = .ok (.ireturn, 1) := by decide +kernel
theorem dX7_noticed_13 : decode cX7_noticed 13 = .ok (.aload_n 0, 1) := by decide +kernel
theorem dX7_noticed_14 : decode cX7_noticed 14 = .ok (.getfield 50, 3) := by decide +kernel
theorem dX7_noticed_17 : decode cX7_noticed 17 = .ok (.iload_n 1, 1) := by decide +kernel
theorem dX7_noticed_18 : decode cX7_noticed 18 = .ok (.invokevirtual 195, 3) := by decide +kernel
theorem dX7_noticed_21 : decode cX7_noticed 21 = .ok (.aload_n 0, 1) := by decide +kernel
theorem dX7_noticed_22 : decode cX7_noticed 22 = .ok (.getfield 59, 3) := by decide +kernel
theorem dX7_noticed_25 : decode cX7_noticed 25 = .ok (.iload_n 1, 1) := by decide +kernel
theorem dX7_noticed_26 : decode cX7_noticed 26 = .ok (.invokevirtual 215, 3) := by decide +kernel
theorem dX7_noticed_29 : decode cX7_noticed 29 = .ok (.istore_n 3, 1) := by decide +kernel
theorem dX7_noticed_30 : decode cX7_noticed 30 = .ok (.iload_n 2, 1) := by decide +kernel
theorem dX7_noticed_31 : decode cX7_noticed 31 = .ok (.ifCond .lt 8, 3) := by decide +kernel
theorem dX7_noticed_34 : decode cX7_noticed 34 = .ok (.iload_n 2, 1) := by decide +kernel
theorem dX7_noticed_35 : decode cX7_noticed 35 = .ok (.iload_n 3, 1) := by decide +kernel
theorem dX7_noticed_36 : decode cX7_noticed 36 = .ok (.if_icmp .lt 6, 3) := by decide +kernel
theorem dX7_noticed_39 : decode cX7_noticed 39 = .ok (.bipush (-2), 2) := by decide +kernel
theorem dX7_noticed_41 : decode cX7_noticed 41 = .ok (.ireturn, 1) := by decide +kernel
theorem dX7_noticed_42 : decode cX7_noticed 42 = .ok (.aload_n 0, 1) := by decide +kernel
theorem dX7_noticed_43 : decode cX7_noticed 43 = .ok (.getfield 59, 3) := by decide +kernel
theorem dX7_noticed_46 : decode cX7_noticed 46 = .ok (.iload_n 1, 1) := by decide +kernel
theorem dX7_noticed_47 : decode cX7_noticed 47 = .ok (.iload_n 2, 1) := by decide +kernel
theorem dX7_noticed_48 : decode cX7_noticed 48 = .ok (.invokevirtual 217, 3) := by decide +kernel
theorem dX7_noticed_51 : decode cX7_noticed 51 = .ok (.ireturn, 1) := by decide +kernel
theorem dX7_unshown_0 : decode cX7_unshown 0 = .ok (.aload_n 0, 1) := by decide +kernel
theorem dX7_unshown_1 : decode cX7_unshown 1 = .ok (.getfield 26, 3) := by decide +kernel
theorem dX7_unshown_4 : decode cX7_unshown 4 = .ok (.iload_n 1, 1) := by decide +kernel
theorem dX7_unshown_5 : decode cX7_unshown 5 = .ok (.invokevirtual 106, 3) := by decide +kernel
theorem dX7_unshown_8 : decode cX7_unshown 8 = .ok (.ifCond .ne 5, 3) := by decide +kernel
theorem dX7_unshown_11 : decode cX7_unshown 11 = .ok (.iconst (-1), 1) := by decide +kernel
theorem dX7_unshown_12 : decode cX7_unshown 12 = .ok (.ireturn, 1) := by decide +kernel
theorem dX7_unshown_13 : decode cX7_unshown 13 = .ok (.aload_n 0, 1) := by decide +kernel
theorem dX7_unshown_14 : decode cX7_unshown 14 = .ok (.getfield 50, 3) := by decide +kernel
theorem dX7_unshown_17 : decode cX7_unshown 17 = .ok (.iload_n 1, 1) := by decide +kernel
theorem dX7_unshown_18 : decode cX7_unshown 18 = .ok (.invokevirtual 195, 3) := by decide +kernel
theorem dX7_unshown_21 : decode cX7_unshown 21 = .ok (.aload_n 0, 1) := by decide +kernel
theorem dX7_unshown_22 : decode cX7_unshown 22 = .ok (.getfield 59, 3) := by decide +kernel
theorem dX7_unshown_25 : decode cX7_unshown 25 = .ok (.iload_n 1, 1) := by decide +kernel
theorem dX7_unshown_26 : decode cX7_unshown 26 = .ok (.invokevirtual 215, 3) := by decide +kernel
theorem dX7_unshown_29 : decode cX7_unshown 29 = .ok (.istore_n 3, 1) := by decide +kernel
theorem dX7_unshown_30 : decode cX7_unshown 30 = .ok (.iconst 0, 1) := by decide +kernel
theorem dX7_unshown_31 : decode cX7_unshown 31 = .ok (.istore 4, 2) := by decide +kernel
theorem dX7_unshown_33 : decode cX7_unshown 33 = .ok (.iconst 0, 1) := by decide +kernel
theorem dX7_unshown_34 : decode cX7_unshown 34 = .ok (.istore 5, 2) := by decide +kernel
theorem dX7_unshown_36 : decode cX7_unshown 36 = .ok (.iload 5, 2) := by decide +kernel
theorem dX7_unshown_38 : decode cX7_unshown 38 = .ok (.iload_n 3, 1) := by decide +kernel
theorem dX7_unshown_39 : decode cX7_unshown 39 = .ok (.if_icmp .ge 34, 3) := by decide +kernel
theorem dX7_unshown_42 : decode cX7_unshown 42 = .ok (.aload_n 0, 1) := by decide +kernel
theorem dX7_unshown_43 : decode cX7_unshown 43 = .ok (.getfield 59, 3) := by decide +kernel
theorem dX7_unshown_46 : decode cX7_unshown 46 = .ok (.iload_n 1, 1) := by decide +kernel
theorem dX7_unshown_47 : decode cX7_unshown 47 = .ok (.iload 5, 2) := by decide +kernel
theorem dX7_unshown_49 : decode cX7_unshown 49 = .ok (.invokevirtual 217, 3) := by decide +kernel
theorem dX7_unshown_52 : decode cX7_unshown 52 = .ok (.ifCond .ne 15, 3) := by decide +kernel
theorem dX7_unshown_55 : decode cX7_unshown 55 = .ok (.iload 4, 2) := by decide +kernel
theorem dX7_unshown_57 : decode cX7_unshown 57 = .ok (.iload_n 2, 1) := by decide +kernel
theorem dX7_unshown_58 : decode cX7_unshown 58 = .ok (.if_icmp .ne 6, 3) := by decide +kernel
theorem dX7_unshown_61 : decode cX7_unshown 61 = .ok (.iload 5, 2) := by decide +kernel
theorem dX7_unshown_63 : decode cX7_unshown 63 = .ok (.ireturn, 1) := by decide +kernel
theorem dX7_unshown_64 : decode cX7_unshown 64 = .ok (.iinc 4 1, 3) := by decide +kernel
theorem dX7_unshown_67 : decode cX7_unshown 67 = .ok (.iinc 5 1, 3) := by decide +kernel
theorem dX7_unshown_70 : decode cX7_unshown 70 = .ok (.goto (-34), 3) := by decide +kernel
theorem dX7_unshown_73 : decode cX7_unshown 73 = .ok (.iload_n 2, 1) := by decide +kernel
theorem dX7_unshown_74 : decode cX7_unshown 74 = .ok (.iconst (-1), 1) := by decide +kernel
theorem dX7_unshown_75 : decode cX7_unshown 75 = .ok (.if_icmp .ne 8, 3) := by decide +kernel
theorem dX7_unshown_78 : decode cX7_unshown 78 = .ok (.iload 4, 2) := by decide +kernel
theorem dX7_unshown_80 : decode cX7_unshown 80 = .ok (.goto 5, 3) := by decide +kernel
theorem dX7_unshown_83 : decode cX7_unshown 83 = .ok (.bipush (-6), 2) := by decide +kernel
theorem dX7_unshown_85 : decode cX7_unshown 85 = .ok (.ireturn, 1) := by decide +kernel
theorem dX7_notice_0 : decode cX7_notice 0 = .ok (.aload_n 0, 1) := by decide +kernel
theorem dX7_notice_1 : decode cX7_notice 1 = .ok (.getfield 26, 3) := by decide +kernel
theorem dX7_notice_4 : decode cX7_notice 4 = .ok (.iload_n 1, 1) := by decide +kernel
theorem dX7_notice_5 : decode cX7_notice 5 = .ok (.invokevirtual 106, 3) := by decide +kernel
theorem dX7_notice_8 : decode cX7_notice 8 = .ok (.ifCond .ne 5, 3) := by decide +kernel
theorem dX7_notice_11 : decode cX7_notice 11 = .ok (.iconst (-1), 1) := by decide +kernel
theorem dX7_notice_12 : decode cX7_notice 12 = .ok (.ireturn, 1) := by decide +kernel
theorem dX7_notice_13 : decode cX7_notice 13 = .ok (.aload_n 0, 1) := by decide +kernel
theorem dX7_notice_14 : decode cX7_notice 14 = .ok (.getfield 50, 3) := by decide +kernel
theorem dX7_notice_17 : decode cX7_notice 17 = .ok (.iload_n 1, 1) := by decide +kernel
theorem dX7_notice_18 : decode cX7_notice 18 = .ok (.invokevirtual 195, 3) := by decide +kernel
theorem dX7_notice_21 : decode cX7_notice 21 = .ok (.aload_n 0, 1) := by decide +kernel
theorem dX7_notice_22 : decode cX7_notice 22 = .ok (.getfield 59, 3) := by decide +kernel
theorem dX7_notice_25 : decode cX7_notice 25 = .ok (.iload_n 1, 1) := by decide +kernel
theorem dX7_notice_26 : decode cX7_notice 26 = .ok (.invokevirtual 215, 3) := by decide +kernel
theorem dX7_notice_29 : decode cX7_notice 29 = .ok (.istore_n 2, 1) := by decide +kernel
theorem dX7_notice_30 : decode cX7_notice 30 = .ok (.aload_n 0, 1) := by decide +kernel
theorem dX7_notice_31 : decode cX7_notice 31 = .ok (.getfield 66, 3) := by decide +kernel
theorem dX7_notice_34 : decode cX7_notice 34 = .ok (.invokevirtual 198, 3) := by decide +kernel
theorem dX7_notice_37 : decode cX7_notice 37 = .ok (.iconst 0, 1) := by decide +kernel
theorem dX7_notice_38 : decode cX7_notice 38 = .ok (.istore_n 3, 1) := by decide +kernel
theorem dX7_notice_39 : decode cX7_notice 39 = .ok (.iload_n 3, 1) := by decide +kernel
theorem dX7_notice_40 : decode cX7_notice 40 = .ok (.iload_n 2, 1) := by decide +kernel
theorem dX7_notice_41 : decode cX7_notice 41 = .ok (.if_icmp .ge 25, 3) := by decide +kernel
theorem dX7_notice_44 : decode cX7_notice 44 = .ok (.aload_n 0, 1) := by decide +kernel
theorem dX7_notice_45 : decode cX7_notice 45 = .ok (.getfield 66, 3) := by decide +kernel
theorem dX7_notice_48 : decode cX7_notice 48 = .ok (.aload_n 0, 1) := by decide +kernel
theorem dX7_notice_49 : decode cX7_notice 49 = .ok (.getfield 59, 3) := by decide +kernel
theorem dX7_notice_52 : decode cX7_notice 52 = .ok (.iload_n 1, 1) := by decide +kernel
theorem dX7_notice_53 : decode cX7_notice 53 = .ok (.iload_n 3, 1) := by decide +kernel
theorem dX7_notice_54 : decode cX7_notice 54 = .ok (.invokevirtual 217, 3) := by decide +kernel
theorem dX7_notice_57 : decode cX7_notice 57 = .ok (.invokevirtual 202, 3) := by decide +kernel
theorem dX7_notice_60 : decode cX7_notice 60 = .ok (.iinc 3 1, 3) := by decide +kernel
theorem dX7_notice_63 : decode cX7_notice 63 = .ok (.goto (-24), 3) := by decide +kernel
theorem dX7_notice_66 : decode cX7_notice 66 = .ok (.aload_n 0, 1) := by decide +kernel
theorem dX7_notice_67 : decode cX7_notice 67 = .ok (.getfield 66, 3) := by decide +kernel
theorem dX7_notice_70 : decode cX7_notice 70 = .ok (.aload_n 0, 1) := by decide +kernel
theorem dX7_notice_71 : decode cX7_notice 71 = .ok (.getfield 26, 3) := by decide +kernel
theorem dX7_notice_74 : decode cX7_notice 74 = .ok (.invokevirtual 128, 3) := by decide +kernel
theorem dX7_notice_77 : decode cX7_notice 77 = .ok (.invokevirtual 203, 3) := by decide +kernel
theorem dX7_notice_80 : decode cX7_notice 80 = .ok (.ireturn, 1) := by decide +kernel
theorem dX7_mend_0 : decode cX7_mend 0 = .ok (.aload_n 0, 1) := by decide +kernel
theorem dX7_mend_1 : decode cX7_mend 1 = .ok (.getfield 26, 3) := by decide +kernel
theorem dX7_mend_4 : decode cX7_mend 4 = .ok (.iload_n 1, 1) := by decide +kernel
theorem dX7_mend_5 : decode cX7_mend 5 = .ok (.invokevirtual 146, 3) := by decide +kernel
theorem dX7_mend_8 : decode cX7_mend 8 = .ok (.ifCond .eq 14, 3) := by decide +kernel
theorem dX7_mend_11 : decode cX7_mend 11 = .ok (.aload_n 0, 1) := by decide +kernel
theorem dX7_mend_12 : decode cX7_mend 12 = .ok (.getfield 26, 3) := by decide +kernel
theorem dX7_mend_15 : decode cX7_mend 15 = .ok (.iload_n 2, 1) := by decide +kernel
theorem dX7_mend_16 : decode cX7_mend 16 = .ok (.invokevirtual 106, 3) := by decide +kernel
theorem dX7_mend_19 : decode cX7_mend 19 = .ok (.ifCond .ne 5, 3) := by decide +kernel
theorem dX7_mend_22 : decode cX7_mend 22 = .ok (.iconst (-1), 1) := by decide +kernel
theorem dX7_mend_23 : decode cX7_mend 23 = .ok (.ireturn, 1) := by decide +kernel
theorem dX7_mend_24 : decode cX7_mend 24 = .ok (.aload_n 0, 1) := by decide +kernel
theorem dX7_mend_25 : decode cX7_mend 25 = .ok (.getfield 50, 3) := by decide +kernel
theorem dX7_mend_28 : decode cX7_mend 28 = .ok (.iload_n 1, 1) := by decide +kernel
theorem dX7_mend_29 : decode cX7_mend 29 = .ok (.iload_n 2, 1) := by decide +kernel
theorem dX7_mend_30 : decode cX7_mend 30 = .ok (.invokevirtual 159, 3) := by decide +kernel
theorem dX7_mend_33 : decode cX7_mend 33 = .ok (.aload_n 0, 1) := by decide +kernel
theorem dX7_mend_34 : decode cX7_mend 34 = .ok (.getfield 50, 3) := by decide +kernel
theorem dX7_mend_37 : decode cX7_mend 37 = .ok (.iload_n 1, 1) := by decide +kernel
theorem dX7_mend_38 : decode cX7_mend 38 = .ok (.iload_n 2, 1) := by decide +kernel
theorem dX7_mend_39 : decode cX7_mend 39 = .ok (.invokevirtual 163, 3) := by decide +kernel
theorem dX7_mend_42 : decode cX7_mend 42 = .ok (.istore_n 3, 1) := by decide +kernel
theorem dX7_mend_43 : decode cX7_mend 43 = .ok (.iload_n 3, 1) := by decide +kernel
theorem dX7_mend_44 : decode cX7_mend 44 = .ok (.invokestatic 117, 3) := by decide +kernel
theorem dX7_mend_47 : decode cX7_mend 47 = .ok (.ifCond .ne 6, 3) := by decide +kernel
theorem dX7_mend_50 : decode cX7_mend 50 = .ok (.bipush (-5), 2) := by decide +kernel
theorem dX7_mend_52 : decode cX7_mend 52 = .ok (.ireturn, 1) := by decide +kernel
theorem dX7_mend_53 : decode cX7_mend 53 = .ok (.aload_n 0, 1) := by decide +kernel
theorem dX7_mend_54 : decode cX7_mend 54 = .ok (.getfield 26, 3) := by decide +kernel
theorem dX7_mend_57 : decode cX7_mend 57 = .ok (.iload_n 1, 1) := by decide +kernel
theorem dX7_mend_58 : decode cX7_mend 58 = .ok (.invokevirtual 149, 3) := by decide +kernel
theorem dX7_mend_61 : decode cX7_mend 61 = .ok (.istore 4, 2) := by decide +kernel
theorem dX7_mend_63 : decode cX7_mend 63 = .ok (.aload_n 0, 1) := by decide +kernel
theorem dX7_mend_64 : decode cX7_mend 64 = .ok (.getfield 26, 3) := by decide +kernel
theorem dX7_mend_67 : decode cX7_mend 67 = .ok (.iload_n 1, 1) := by decide +kernel
theorem dX7_mend_68 : decode cX7_mend 68 = .ok (.iload_n 3, 1) := by decide +kernel
theorem dX7_mend_69 : decode cX7_mend 69 = .ok (.invokevirtual 220, 3) := by decide +kernel
theorem dX7_mend_72 : decode cX7_mend 72 = .ok (.aload_n 0, 1) := by decide +kernel
theorem dX7_mend_73 : decode cX7_mend 73 = .ok (.getfield 59, 3) := by decide +kernel
theorem dX7_mend_76 : decode cX7_mend 76 = .ok (.invokevirtual 104, 3) := by decide +kernel
theorem dX7_mend_79 : decode cX7_mend 79 = .ok (.iload 4, 2) := by decide +kernel
theorem dX7_mend_81 : decode cX7_mend 81 = .ok (.ireturn, 1) := by decide +kernel
theorem dX7_instead_0 : decode cX7_instead 0 = .ok (.aload_n 0, 1) := by decide +kernel
theorem dX7_instead_1 : decode cX7_instead 1 = .ok (.getfield 26, 3) := by decide +kernel
theorem dX7_instead_4 : decode cX7_instead 4 = .ok (.iload_n 1, 1) := by decide +kernel
theorem dX7_instead_5 : decode cX7_instead 5 = .ok (.invokevirtual 146, 3) := by decide +kernel
theorem dX7_instead_8 : decode cX7_instead 8 = .ok (.ifCond .eq 14, 3) := by decide +kernel
theorem dX7_instead_11 : decode cX7_instead 11 = .ok (.aload_n 0, 1) := by decide +kernel
theorem dX7_instead_12 : decode cX7_instead 12 = .ok (.getfield 26, 3) := by decide +kernel
theorem dX7_instead_15 : decode cX7_instead 15 = .ok (.iload_n 2, 1) := by decide +kernel
theorem dX7_instead_16 : decode cX7_instead 16 = .ok (.invokevirtual 106, 3) := by decide +kernel
theorem dX7_instead_19 : decode cX7_instead 19 = .ok (.ifCond .ne 5, 3) := by decide +kernel
theorem dX7_instead_22 : decode cX7_instead 22 = .ok (.iconst (-1), 1) := by decide +kernel
theorem dX7_instead_23 : decode cX7_instead 23 = .ok (.ireturn, 1) := by decide +kernel
theorem dX7_instead_24 : decode cX7_instead 24 = .ok (.aload_n 0, 1) := by decide +kernel
theorem dX7_instead_25 : decode cX7_instead 25 = .ok (.getfield 26, 3) := by decide +kernel
theorem dX7_instead_28 : decode cX7_instead 28 = .ok (.iload_n 1, 1) := by decide +kernel
theorem dX7_instead_29 : decode cX7_instead 29 = .ok (.invokevirtual 155, 3) := by decide +kernel
theorem dX7_instead_32 : decode cX7_instead 32 = .ok (.astore_n 3, 1) := by decide +kernel
theorem dX7_instead_33 : decode cX7_instead 33 = .ok (.aload_n 0, 1) := by decide +kernel
theorem dX7_instead_34 : decode cX7_instead 34 = .ok (.getfield 41, 3) := by decide +kernel
theorem dX7_instead_37 : decode cX7_instead 37 = .ok (.aload_n 0, 1) := by decide +kernel
theorem dX7_instead_38 : decode cX7_instead 38 = .ok (.getfield 26, 3) := by decide +kernel
theorem dX7_instead_41 : decode cX7_instead 41 = .ok (.iload_n 2, 1) := by decide +kernel
theorem dX7_instead_42 : decode cX7_instead 42 = .ok (.invokevirtual 120, 3) := by decide +kernel
theorem dX7_instead_45 : decode cX7_instead 45 = .ok (.iconst 0, 1) := by decide +kernel
theorem dX7_instead_46 : decode cX7_instead 46 = .ok (.istore 4, 2) := by decide +kernel
theorem dX7_instead_48 : decode cX7_instead 48 = .ok (.iload 4, 2) := by decide +kernel
theorem dX7_instead_50 : decode cX7_instead 50 = .ok (.aload_n 3, 1) := by decide +kernel
theorem dX7_instead_51 : decode cX7_instead 51 = .ok (.invokevirtual 70, 3) := by decide +kernel
theorem dX7_instead_54 : decode cX7_instead 54 = .ok (.if_icmp .ge 54, 3) := by decide +kernel
theorem dX7_instead_57 : decode cX7_instead 57 = .ok (.aload_n 3, 1) := by decide +kernel
theorem dX7_instead_58 : decode cX7_instead 58 = .ok (.iload 4, 2) := by decide +kernel
theorem dX7_instead_60 : decode cX7_instead 60 = .ok (.invokevirtual 113, 3) := by decide +kernel
theorem dX7_instead_63 : decode cX7_instead 63 = .ok (.invokestatic 223, 3) := by decide +kernel
theorem dX7_instead_66 : decode cX7_instead 66 = .ok (.ifCond .eq 36, 3) := by decide +kernel
theorem dX7_instead_69 : decode cX7_instead 69 = .ok (.aload_n 0, 1) := by decide +kernel
theorem dX7_instead_70 : decode cX7_instead 70 = .ok (.aload_n 3, 1) := by decide +kernel
theorem dX7_instead_71 : decode cX7_instead 71 = .ok (.iload 4, 2) := by decide +kernel
theorem dX7_instead_73 : decode cX7_instead 73 = .ok (.aload_n 0, 1) := by decide +kernel
theorem dX7_instead_74 : decode cX7_instead 74 = .ok (.getfield 26, 3) := by decide +kernel
theorem dX7_instead_77 : decode cX7_instead 77 = .ok (.iload_n 1, 1) := by decide +kernel
theorem dX7_instead_78 : decode cX7_instead 78 = .ok (.invokevirtual 149, 3) := by decide +kernel
theorem dX7_instead_81 : decode cX7_instead 81 = .ok (.invokevirtual 226, 3) := by decide +kernel
theorem dX7_instead_84 : decode cX7_instead 84 = .ok (.istore 5, 2) := by decide +kernel
theorem dX7_instead_86 : decode cX7_instead 86 = .ok (.iload 5, 2) := by decide +kernel
theorem dX7_instead_88 : decode cX7_instead 88 = .ok (.bipush (-6), 2) := by decide +kernel
theorem dX7_instead_90 : decode cX7_instead 90 = .ok (.if_icmp .eq 12, 3) := by decide +kernel
theorem dX7_instead_93 : decode cX7_instead 93 = .ok (.bipush 10, 2) := by decide +kernel
theorem dX7_instead_95 : decode cX7_instead 95 = .ok (.iload 4, 2) := by decide +kernel
theorem dX7_instead_97 : decode cX7_instead 97 = .ok (.imul, 1) := by decide +kernel
theorem dX7_instead_98 : decode cX7_instead 98 = .ok (.iload 5, 2) := by decide +kernel
theorem dX7_instead_100 : decode cX7_instead 100 = .ok (.iadd, 1) := by decide +kernel
theorem dX7_instead_101 : decode cX7_instead 101 = .ok (.ireturn, 1) := by decide +kernel
theorem dX7_instead_102 : decode cX7_instead 102 = .ok (.iinc 4 1, 3) := by decide +kernel
theorem dX7_instead_105 : decode cX7_instead 105 = .ok (.goto (-57), 3) := by decide +kernel
theorem dX7_instead_108 : decode cX7_instead 108 = .ok (.bipush (-6), 2) := by decide +kernel
theorem dX7_instead_110 : decode cX7_instead 110 = .ok (.ireturn, 1) := by decide +kernel
theorem dX7_image_0 : decode cX7_image 0 = .ok (.iload_n 1, 1) := by decide +kernel
theorem dX7_image_1 : decode cX7_image 1 = .ok (.invokestatic 230, 3) := by decide +kernel
theorem dX7_image_4 : decode cX7_image 4 = .ok (.ifCond .ne 6, 3) := by decide +kernel
theorem dX7_image_7 : decode cX7_image 7 = .ok (.bipush (-2), 2) := by decide +kernel
theorem dX7_image_9 : decode cX7_image 9 = .ok (.ireturn, 1) := by decide +kernel
theorem dX7_image_10 : decode cX7_image 10 = .ok (.aload_n 0, 1) := by decide +kernel
theorem dX7_image_11 : decode cX7_image 11 = .ok (.getfield 30, 3) := by decide +kernel
theorem dX7_image_14 : decode cX7_image 14 = .ok (.iload_n 1, 1) := by decide +kernel
theorem dX7_image_15 : decode cX7_image 15 = .ok (.aaload, 1) := by decide +kernel
theorem dX7_image_16 : decode cX7_image 16 = .ok (.aload_n 0, 1) := by decide +kernel
theorem dX7_image_17 : decode cX7_image 17 = .ok (.getfield 26, 3) := by decide +kernel
theorem dX7_image_20 : decode cX7_image 20 = .ok (.invokevirtual 233, 3) := by decide +kernel
theorem dX7_image_23 : decode cX7_image 23 = .ok (.aload_n 0, 1) := by decide +kernel
theorem dX7_image_24 : decode cX7_image 24 = .ok (.getfield 34, 3) := by decide +kernel
theorem dX7_image_27 : decode cX7_image 27 = .ok (.iload_n 1, 1) := by decide +kernel
theorem dX7_image_28 : decode cX7_image 28 = .ok (.iconst 1, 1) := by decide +kernel
theorem dX7_image_29 : decode cX7_image 29 = .ok (.bastore, 1) := by decide +kernel
theorem dX7_image_30 : decode cX7_image 30 = .ok (.iconst 1, 1) := by decide +kernel
theorem dX7_image_31 : decode cX7_image 31 = .ok (.ireturn, 1) := by decide +kernel
theorem dX7_restore_0 : decode cX7_restore 0 = .ok (.iload_n 1, 1) := by decide +kernel
theorem dX7_restore_1 : decode cX7_restore 1 = .ok (.invokestatic 230, 3) := by decide +kernel
theorem dX7_restore_4 : decode cX7_restore 4 = .ok (.ifCond .ne 6, 3) := by decide +kernel
theorem dX7_restore_7 : decode cX7_restore 7 = .ok (.bipush (-2), 2) := by decide +kernel
theorem dX7_restore_9 : decode cX7_restore 9 = .ok (.ireturn, 1) := by decide +kernel
theorem dX7_restore_10 : decode cX7_restore 10 = .ok (.aload_n 0, 1) := by decide +kernel
theorem dX7_restore_11 : decode cX7_restore 11 = .ok (.getfield 34, 3) := by decide +kernel
theorem dX7_restore_14 : decode cX7_restore 14 = .ok (.iload_n 1, 1) := by decide +kernel
theorem dX7_restore_15 : decode cX7_restore 15 = .ok (.baload, 1) := by decide +kernel
theorem dX7_restore_16 : decode cX7_restore 16 = .ok (.ifCond .ne 6, 3) := by decide +kernel
theorem dX7_restore_19 : decode cX7_restore 19 = .ok (.bipush (-3), 2) := by decide +kernel
theorem dX7_restore_21 : decode cX7_restore 21 = .ok (.ireturn, 1) := by decide +kernel
theorem dX7_restore_22 : decode cX7_restore 22 = .ok (.aload_n 0, 1) := by decide +kernel
theorem dX7_restore_23 : decode cX7_restore 23 = .ok (.getfield 26, 3) := by decide +kernel
theorem dX7_restore_26 : decode cX7_restore 26 = .ok (.aload_n 0, 1) := by decide +kernel
theorem dX7_restore_27 : decode cX7_restore 27 = .ok (.getfield 30, 3) := by decide +kernel
theorem dX7_restore_30 : decode cX7_restore 30 = .ok (.iload_n 1, 1) := by decide +kernel
theorem dX7_restore_31 : decode cX7_restore 31 = .ok (.aaload, 1) := by decide +kernel
theorem dX7_restore_32 : decode cX7_restore 32 = .ok (.invokevirtual 233, 3) := by decide +kernel
theorem dX7_restore_35 : decode cX7_restore 35 = .ok (.aload_n 0, 1) := by decide +kernel
theorem dX7_restore_36 : decode cX7_restore 36 = .ok (.getfield 50, 3) := by decide +kernel
theorem dX7_restore_39 : decode cX7_restore 39 = .ok (.invokevirtual 237, 3) := by decide +kernel
theorem dX7_restore_42 : decode cX7_restore 42 = .ok (.aload_n 0, 1) := by decide +kernel
theorem dX7_restore_43 : decode cX7_restore 43 = .ok (.getfield 59, 3) := by decide +kernel
theorem dX7_restore_46 : decode cX7_restore 46 = .ok (.invokevirtual 104, 3) := by decide +kernel
theorem dX7_restore_49 : decode cX7_restore 49 = .ok (.iconst 1, 1) := by decide +kernel
theorem dX7_restore_50 : decode cX7_restore 50 = .ok (.ireturn, 1) := by decide +kernel
theorem dX7_told_0 : decode cX7_told 0 = .ok (.iload_n 1, 1) := by decide +kernel
theorem dX7_told_1 : decode cX7_told 1 = .ok (.tableswitch 63 0 3 #[31, 39, 47, 55], 31) := by decide +kernel
theorem dX7_told_32 : decode cX7_told 32 = .ok (.aload_n 0, 1) := by decide +kernel
theorem dX7_told_33 : decode cX7_told 33 = .ok (.getfield 14, 3) := by decide +kernel
theorem dX7_told_36 : decode cX7_told 36 = .ok (.invokevirtual 70, 3) := by decide +kernel
theorem dX7_told_39 : decode cX7_told 39 = .ok (.ireturn, 1) := by decide +kernel
theorem dX7_told_40 : decode cX7_told 40 = .ok (.aload_n 0, 1) := by decide +kernel
theorem dX7_told_41 : decode cX7_told 41 = .ok (.getfield 26, 3) := by decide +kernel
theorem dX7_told_44 : decode cX7_told 44 = .ok (.invokevirtual 83, 3) := by decide +kernel
theorem dX7_told_47 : decode cX7_told 47 = .ok (.ireturn, 1) := by decide +kernel
theorem dX7_told_48 : decode cX7_told 48 = .ok (.aload_n 0, 1) := by decide +kernel
theorem dX7_told_49 : decode cX7_told 49 = .ok (.getfield 26, 3) := by decide +kernel
theorem dX7_told_52 : decode cX7_told 52 = .ok (.invokevirtual 128, 3) := by decide +kernel
theorem dX7_told_55 : decode cX7_told 55 = .ok (.ireturn, 1) := by decide +kernel
theorem dX7_told_56 : decode cX7_told 56 = .ok (.aload_n 0, 1) := by decide +kernel
theorem dX7_told_57 : decode cX7_told 57 = .ok (.getfield 26, 3) := by decide +kernel
theorem dX7_told_60 : decode cX7_told 60 = .ok (.invokevirtual 240, 3) := by decide +kernel
theorem dX7_told_63 : decode cX7_told 63 = .ok (.ireturn, 1) := by decide +kernel
theorem dX7_told_64 : decode cX7_told 64 = .ok (.bipush (-2), 2) := by decide +kernel
theorem dX7_told_66 : decode cX7_told 66 = .ok (.ireturn, 1) := by decide +kernel
theorem dX7_isWord_0 : decode cX7_isWord 0 = .ok (.iload_n 0, 1) := by decide +kernel
theorem dX7_isWord_1 : decode cX7_isWord 1 = .ok (.ifCond .lt 13, 3) := by decide +kernel
theorem dX7_isWord_4 : decode cX7_isWord 4 = .ok (.iload_n 0, 1) := by decide +kernel
theorem dX7_isWord_5 : decode cX7_isWord 5 = .ok (.bipush 8, 2) := by decide +kernel
theorem dX7_isWord_7 : decode cX7_isWord 7 = .ok (.if_icmp .ge 7, 3) := by decide +kernel
theorem dX7_isWord_10 : decode cX7_isWord 10 = .ok (.iconst 1, 1) := by decide +kernel
theorem dX7_isWord_11 : decode cX7_isWord 11 = .ok (.goto 4, 3) := by decide +kernel
theorem dX7_isWord_14 : decode cX7_isWord 14 = .ok (.iconst 0, 1) := by decide +kernel
theorem dX7_isWord_15 : decode cX7_isWord 15 = .ok (.ireturn, 1) := by decide +kernel
theorem dX7_isNumber_0 : decode cX7_isNumber 0 = .ok (.iload_n 0, 1) := by decide +kernel
theorem dX7_isNumber_1 : decode cX7_isNumber 1 = .ok (.ifCond .lt 14, 3) := by decide +kernel
theorem dX7_isNumber_4 : decode cX7_isNumber 4 = .ok (.iload_n 0, 1) := by decide +kernel
theorem dX7_isNumber_5 : decode cX7_isNumber 5 = .ok (.sipush 1000, 3) := by decide +kernel
theorem dX7_isNumber_8 : decode cX7_isNumber 8 = .ok (.if_icmp .ge 7, 3) := by decide +kernel
theorem dX7_isNumber_11 : decode cX7_isNumber 11 = .ok (.iconst 1, 1) := by decide +kernel
theorem dX7_isNumber_12 : decode cX7_isNumber 12 = .ok (.goto 4, 3) := by decide +kernel
theorem dX7_isNumber_15 : decode cX7_isNumber 15 = .ok (.iconst 0, 1) := by decide +kernel
theorem dX7_isNumber_16 : decode cX7_isNumber 16 = .ok (.ireturn, 1) := by decide +kernel
theorem dX7_isImage_0 : decode cX7_isImage 0 = .ok (.iload_n 0, 1) := by decide +kernel
theorem dX7_isImage_1 : decode cX7_isImage 1 = .ok (.ifCond .lt 12, 3) := by decide +kernel
theorem dX7_isImage_4 : decode cX7_isImage 4 = .ok (.iload_n 0, 1) := by decide +kernel
theorem dX7_isImage_5 : decode cX7_isImage 5 = .ok (.iconst 2, 1) := by decide +kernel
theorem dX7_isImage_6 : decode cX7_isImage 6 = .ok (.if_icmp .ge 7, 3) := by decide +kernel
theorem dX7_isImage_9 : decode cX7_isImage 9 = .ok (.iconst 1, 1) := by decide +kernel
theorem dX7_isImage_10 : decode cX7_isImage 10 = .ok (.goto 4, 3) := by decide +kernel
theorem dX7_isImage_13 : decode cX7_isImage 13 = .ok (.iconst 0, 1) := by decide +kernel
theorem dX7_isImage_14 : decode cX7_isImage 14 = .ok (.ireturn, 1) := by decide +kernel
theorem dX7_holdsTakenBack_0 : decode cX7_holdsTakenBack 0 = .ok (.aload_n 0, 1) := by decide +kernel
theorem dX7_holdsTakenBack_1 : decode cX7_holdsTakenBack 1 = .ok (.getfield 41, 3) := by decide +kernel
theorem dX7_holdsTakenBack_4 : decode cX7_holdsTakenBack 4 = .ok (.aload_n 0, 1) := by decide +kernel
theorem dX7_holdsTakenBack_5 : decode cX7_holdsTakenBack 5 = .ok (.getfield 26, 3) := by decide +kernel
theorem dX7_holdsTakenBack_8 : decode cX7_holdsTakenBack 8 = .ok (.iload_n 2, 1) := by decide +kernel
theorem dX7_holdsTakenBack_9 : decode cX7_holdsTakenBack 9 = .ok (.invokevirtual 120, 3) := by decide +kernel
theorem dX7_holdsTakenBack_12 : decode cX7_holdsTakenBack 12 = .ok (.iconst 0, 1) := by decide +kernel
theorem dX7_holdsTakenBack_13 : decode cX7_holdsTakenBack 13 = .ok (.istore 4, 2) := by decide +kernel
theorem dX7_holdsTakenBack_15 : decode cX7_holdsTakenBack 15 = .ok (.iload 4, 2) := by decide +kernel
theorem dX7_holdsTakenBack_17 : decode cX7_holdsTakenBack 17 = .ok (.bipush 8, 2) := by decide +kernel
theorem dX7_holdsTakenBack_19 : decode cX7_holdsTakenBack 19 = .ok (.if_icmp .ge 40, 3) := by decide +kernel
theorem dX7_holdsTakenBack_22 : decode cX7_holdsTakenBack 22 = .ok (.iload_n 3, 1) := by decide +kernel
theorem dX7_holdsTakenBack_23 : decode cX7_holdsTakenBack 23 = .ok (.iload 4, 2) := by decide +kernel
theorem dX7_holdsTakenBack_25 : decode cX7_holdsTakenBack 25 = .ok (.ishr, 1) := by decide +kernel
theorem dX7_holdsTakenBack_26 : decode cX7_holdsTakenBack 26 = .ok (.iconst 1, 1) := by decide +kernel
theorem dX7_holdsTakenBack_27 : decode cX7_holdsTakenBack 27 = .ok (.iand, 1) := by decide +kernel
theorem dX7_holdsTakenBack_28 : decode cX7_holdsTakenBack 28 = .ok (.iconst 1, 1) := by decide +kernel
theorem dX7_holdsTakenBack_29 : decode cX7_holdsTakenBack 29 = .ok (.if_icmp .ne 24, 3) := by decide +kernel
theorem dX7_holdsTakenBack_32 : decode cX7_holdsTakenBack 32 = .ok (.aload_n 0, 1) := by decide +kernel
theorem dX7_holdsTakenBack_33 : decode cX7_holdsTakenBack 33 = .ok (.getfield 41, 3) := by decide +kernel
theorem dX7_holdsTakenBack_36 : decode cX7_holdsTakenBack 36 = .ok (.iload 4, 2) := by decide +kernel
theorem dX7_holdsTakenBack_38 : decode cX7_holdsTakenBack 38 = .ok (.aload_n 0, 1) := by decide +kernel
theorem dX7_holdsTakenBack_39 : decode cX7_holdsTakenBack 39 = .ok (.getfield 26, 3) := by decide +kernel
theorem dX7_holdsTakenBack_42 : decode cX7_holdsTakenBack 42 = .ok (.iload_n 2, 1) := by decide +kernel
theorem dX7_holdsTakenBack_43 : decode cX7_holdsTakenBack 43 = .ok (.iconst 1, 1) := by decide +kernel
theorem dX7_holdsTakenBack_44 : decode cX7_holdsTakenBack 44 = .ok (.isub, 1) := by decide +kernel
theorem dX7_holdsTakenBack_45 : decode cX7_holdsTakenBack 45 = .ok (.iload 4, 2) := by decide +kernel
theorem dX7_holdsTakenBack_47 : decode cX7_holdsTakenBack 47 = .ok (.invokevirtual 109, 3) := by decide +kernel
theorem dX7_holdsTakenBack_50 : decode cX7_holdsTakenBack 50 = .ok (.invokevirtual 243, 3) := by decide +kernel
theorem dX7_holdsTakenBack_53 : decode cX7_holdsTakenBack 53 = .ok (.iinc 4 1, 3) := by decide +kernel
theorem dX7_holdsTakenBack_56 : decode cX7_holdsTakenBack 56 = .ok (.goto (-41), 3) := by decide +kernel
theorem dX7_holdsTakenBack_59 : decode cX7_holdsTakenBack 59 = .ok (.aload_n 0, 1) := by decide +kernel
theorem dX7_holdsTakenBack_60 : decode cX7_holdsTakenBack 60 = .ok (.getfield 41, 3) := by decide +kernel
theorem dX7_holdsTakenBack_63 : decode cX7_holdsTakenBack 63 = .ok (.aload_n 0, 1) := by decide +kernel
theorem dX7_holdsTakenBack_64 : decode cX7_holdsTakenBack 64 = .ok (.getfield 26, 3) := by decide +kernel
theorem dX7_holdsTakenBack_67 : decode cX7_holdsTakenBack 67 = .ok (.iload_n 1, 1) := by decide +kernel
theorem dX7_holdsTakenBack_68 : decode cX7_holdsTakenBack 68 = .ok (.invokevirtual 155, 3) := by decide +kernel
theorem dX7_holdsTakenBack_71 : decode cX7_holdsTakenBack 71 = .ok (.iconst 0, 1) := by decide +kernel
theorem dX7_holdsTakenBack_72 : decode cX7_holdsTakenBack 72 = .ok (.invokevirtual 124, 3) := by decide +kernel
theorem dX7_holdsTakenBack_75 : decode cX7_holdsTakenBack 75 = .ok (.aload_n 0, 1) := by decide +kernel
theorem dX7_holdsTakenBack_76 : decode cX7_holdsTakenBack 76 = .ok (.getfield 26, 3) := by decide +kernel
theorem dX7_holdsTakenBack_79 : decode cX7_holdsTakenBack 79 = .ok (.iload_n 1, 1) := by decide +kernel
theorem dX7_holdsTakenBack_80 : decode cX7_holdsTakenBack 80 = .ok (.invokevirtual 149, 3) := by decide +kernel
theorem dX7_holdsTakenBack_83 : decode cX7_holdsTakenBack 83 = .ok (.if_icmp .ne 7, 3) := by decide +kernel
theorem dX7_holdsTakenBack_86 : decode cX7_holdsTakenBack 86 = .ok (.iconst 1, 1) := by decide +kernel
theorem dX7_holdsTakenBack_87 : decode cX7_holdsTakenBack 87 = .ok (.goto 4, 3) := by decide +kernel
theorem dX7_holdsTakenBack_90 : decode cX7_holdsTakenBack 90 = .ok (.iconst 0, 1) := by decide +kernel
theorem dX7_holdsTakenBack_91 : decode cX7_holdsTakenBack 91 = .ok (.ireturn, 1) := by decide +kernel
theorem dX7_earlyAsTheyStand_0 : decode cX7_earlyAsTheyStand 0 = .ok (.iconst 0, 1) := by decide +kernel
theorem dX7_earlyAsTheyStand_1 : decode cX7_earlyAsTheyStand 1 = .ok (.istore_n 1, 1) := by decide +kernel
theorem dX7_earlyAsTheyStand_2 : decode cX7_earlyAsTheyStand 2 = .ok (.iconst 0, 1) := by decide +kernel
theorem dX7_earlyAsTheyStand_3 : decode cX7_earlyAsTheyStand 3 = .ok (.istore_n 2, 1) := by decide +kernel
theorem dX7_earlyAsTheyStand_4 : decode cX7_earlyAsTheyStand 4 = .ok (.iconst 0, 1) := by decide +kernel
theorem dX7_earlyAsTheyStand_5 : decode cX7_earlyAsTheyStand 5 = .ok (.istore_n 3, 1) := by decide +kernel
theorem dX7_earlyAsTheyStand_6 : decode cX7_earlyAsTheyStand 6 = .ok (.iload_n 3, 1) := by decide +kernel
theorem dX7_earlyAsTheyStand_7 : decode cX7_earlyAsTheyStand 7 = .ok (.aload_n 0, 1) := by decide +kernel
theorem dX7_earlyAsTheyStand_8 : decode cX7_earlyAsTheyStand 8 = .ok (.getfield 26, 3) := by decide +kernel
theorem dX7_earlyAsTheyStand_11 : decode cX7_earlyAsTheyStand 11 = .ok (.invokevirtual 128, 3) := by decide +kernel
theorem dX7_earlyAsTheyStand_14 : decode cX7_earlyAsTheyStand 14 = .ok (.if_icmp .ge 54, 3) := by decide +kernel
theorem dX7_earlyAsTheyStand_17 : decode cX7_earlyAsTheyStand 17 = .ok (.aload_n 0, 1) := by decide +kernel
theorem dX7_earlyAsTheyStand_18 : decode cX7_earlyAsTheyStand 18 = .ok (.getfield 26, 3) := by decide +kernel
theorem dX7_earlyAsTheyStand_21 : decode cX7_earlyAsTheyStand 21 = .ok (.iload_n 3, 1) := by decide +kernel
theorem dX7_earlyAsTheyStand_22 : decode cX7_earlyAsTheyStand 22 = .ok (.invokevirtual 146, 3) := by decide +kernel
theorem dX7_earlyAsTheyStand_25 : decode cX7_earlyAsTheyStand 25 = .ok (.ifCond .eq 24, 3) := by decide +kernel
theorem dX7_earlyAsTheyStand_28 : decode cX7_earlyAsTheyStand 28 = .ok (.iload_n 2, 1) := by decide +kernel
theorem dX7_earlyAsTheyStand_29 : decode cX7_earlyAsTheyStand 29 = .ok (.aload_n 0, 1) := by decide +kernel
theorem dX7_earlyAsTheyStand_30 : decode cX7_earlyAsTheyStand 30 = .ok (.getfield 26, 3) := by decide +kernel
theorem dX7_earlyAsTheyStand_33 : decode cX7_earlyAsTheyStand 33 = .ok (.iload_n 3, 1) := by decide +kernel
theorem dX7_earlyAsTheyStand_34 : decode cX7_earlyAsTheyStand 34 = .ok (.invokevirtual 152, 3) := by decide +kernel
theorem dX7_earlyAsTheyStand_37 : decode cX7_earlyAsTheyStand 37 = .ok (.iload_n 1, 1) := by decide +kernel
theorem dX7_earlyAsTheyStand_38 : decode cX7_earlyAsTheyStand 38 = .ok (.iconst (-1), 1) := by decide +kernel
theorem dX7_earlyAsTheyStand_39 : decode cX7_earlyAsTheyStand 39 = .ok (.ixor, 1) := by decide +kernel
theorem dX7_earlyAsTheyStand_40 : decode cX7_earlyAsTheyStand 40 = .ok (.iand, 1) := by decide +kernel
theorem dX7_earlyAsTheyStand_41 : decode cX7_earlyAsTheyStand 41 = .ok (.invokestatic 177, 3) := by decide +kernel
theorem dX7_earlyAsTheyStand_44 : decode cX7_earlyAsTheyStand 44 = .ok (.iadd, 1) := by decide +kernel
theorem dX7_earlyAsTheyStand_45 : decode cX7_earlyAsTheyStand 45 = .ok (.istore_n 2, 1) := by decide +kernel
theorem dX7_earlyAsTheyStand_46 : decode cX7_earlyAsTheyStand 46 = .ok (.goto 16, 3) := by decide +kernel
theorem dX7_earlyAsTheyStand_49 : decode cX7_earlyAsTheyStand 49 = .ok (.iload_n 1, 1) := by decide +kernel
theorem dX7_earlyAsTheyStand_50 : decode cX7_earlyAsTheyStand 50 = .ok (.iconst 1, 1) := by decide +kernel
theorem dX7_earlyAsTheyStand_51 : decode cX7_earlyAsTheyStand 51 = .ok (.aload_n 0, 1) := by decide +kernel
theorem dX7_earlyAsTheyStand_52 : decode cX7_earlyAsTheyStand 52 = .ok (.getfield 26, 3) := by decide +kernel
theorem dX7_earlyAsTheyStand_55 : decode cX7_earlyAsTheyStand 55 = .ok (.iload_n 3, 1) := by decide +kernel
theorem dX7_earlyAsTheyStand_56 : decode cX7_earlyAsTheyStand 56 = .ok (.invokevirtual 143, 3) := by decide +kernel
theorem dX7_earlyAsTheyStand_59 : decode cX7_earlyAsTheyStand 59 = .ok (.ishl, 1) := by decide +kernel
theorem dX7_earlyAsTheyStand_60 : decode cX7_earlyAsTheyStand 60 = .ok (.ior, 1) := by decide +kernel
theorem dX7_earlyAsTheyStand_61 : decode cX7_earlyAsTheyStand 61 = .ok (.istore_n 1, 1) := by decide +kernel
theorem dX7_earlyAsTheyStand_62 : decode cX7_earlyAsTheyStand 62 = .ok (.iinc 3 1, 3) := by decide +kernel
theorem dX7_earlyAsTheyStand_65 : decode cX7_earlyAsTheyStand 65 = .ok (.goto (-59), 3) := by decide +kernel
theorem dX7_earlyAsTheyStand_68 : decode cX7_earlyAsTheyStand 68 = .ok (.iload_n 2, 1) := by decide +kernel
theorem dX7_earlyAsTheyStand_69 : decode cX7_earlyAsTheyStand 69 = .ok (.ireturn, 1) := by decide +kernel
theorem dX7_leastEarly_0 : decode cX7_leastEarly 0 = .ok (.aload_n 0, 1) := by decide +kernel
theorem dX7_leastEarly_1 : decode cX7_leastEarly 1 = .ok (.getfield 26, 3) := by decide +kernel
theorem dX7_leastEarly_4 : decode cX7_leastEarly 4 = .ok (.invokevirtual 246, 3) := by decide +kernel
theorem dX7_leastEarly_7 : decode cX7_leastEarly 7 = .ok (.istore_n 1, 1) := by decide +kernel
theorem dX7_leastEarly_8 : decode cX7_leastEarly 8 = .ok (.iconst 0, 1) := by decide +kernel
theorem dX7_leastEarly_9 : decode cX7_leastEarly 9 = .ok (.istore_n 2, 1) := by decide +kernel
theorem dX7_leastEarly_10 : decode cX7_leastEarly 10 = .ok (.iconst 0, 1) := by decide +kernel
theorem dX7_leastEarly_11 : decode cX7_leastEarly 11 = .ok (.istore_n 3, 1) := by decide +kernel
theorem dX7_leastEarly_12 : decode cX7_leastEarly 12 = .ok (.iload_n 3, 1) := by decide +kernel
theorem dX7_leastEarly_13 : decode cX7_leastEarly 13 = .ok (.aload_n 0, 1) := by decide +kernel
theorem dX7_leastEarly_14 : decode cX7_leastEarly 14 = .ok (.getfield 26, 3) := by decide +kernel
theorem dX7_leastEarly_17 : decode cX7_leastEarly 17 = .ok (.invokevirtual 128, 3) := by decide +kernel
theorem dX7_leastEarly_20 : decode cX7_leastEarly 20 = .ok (.if_icmp .ge 27, 3) := by decide +kernel
theorem dX7_leastEarly_23 : decode cX7_leastEarly 23 = .ok (.iload_n 2, 1) := by decide +kernel
theorem dX7_leastEarly_24 : decode cX7_leastEarly 24 = .ok (.aload_n 0, 1) := by decide +kernel
theorem dX7_leastEarly_25 : decode cX7_leastEarly 25 = .ok (.getfield 26, 3) := by decide +kernel
theorem dX7_leastEarly_28 : decode cX7_leastEarly 28 = .ok (.iload_n 3, 1) := by decide +kernel
theorem dX7_leastEarly_29 : decode cX7_leastEarly 29 = .ok (.invokevirtual 152, 3) := by decide +kernel
theorem dX7_leastEarly_32 : decode cX7_leastEarly 32 = .ok (.iload_n 1, 1) := by decide +kernel
theorem dX7_leastEarly_33 : decode cX7_leastEarly 33 = .ok (.iconst (-1), 1) := by decide +kernel
theorem dX7_leastEarly_34 : decode cX7_leastEarly 34 = .ok (.ixor, 1) := by decide +kernel
theorem dX7_leastEarly_35 : decode cX7_leastEarly 35 = .ok (.iand, 1) := by decide +kernel
theorem dX7_leastEarly_36 : decode cX7_leastEarly 36 = .ok (.invokestatic 177, 3) := by decide +kernel
theorem dX7_leastEarly_39 : decode cX7_leastEarly 39 = .ok (.iadd, 1) := by decide +kernel
theorem dX7_leastEarly_40 : decode cX7_leastEarly 40 = .ok (.istore_n 2, 1) := by decide +kernel
theorem dX7_leastEarly_41 : decode cX7_leastEarly 41 = .ok (.iinc 3 1, 3) := by decide +kernel
theorem dX7_leastEarly_44 : decode cX7_leastEarly 44 = .ok (.goto (-32), 3) := by decide +kernel
theorem dX7_leastEarly_47 : decode cX7_leastEarly 47 = .ok (.iload_n 2, 1) := by decide +kernel
theorem dX7_leastEarly_48 : decode cX7_leastEarly 48 = .ok (.ireturn, 1) := by decide +kernel
theorem dX7_placedAt_0 : decode cX7_placedAt 0 = .ok (.aload_n 0, 1) := by decide +kernel
theorem dX7_placedAt_1 : decode cX7_placedAt 1 = .ok (.getfield 26, 3) := by decide +kernel
theorem dX7_placedAt_4 : decode cX7_placedAt 4 = .ok (.invokevirtual 246, 3) := by decide +kernel
theorem dX7_placedAt_7 : decode cX7_placedAt 7 = .ok (.istore_n 2, 1) := by decide +kernel
theorem dX7_placedAt_8 : decode cX7_placedAt 8 = .ok (.iconst 0, 1) := by decide +kernel
theorem dX7_placedAt_9 : decode cX7_placedAt 9 = .ok (.istore_n 3, 1) := by decide +kernel
theorem dX7_placedAt_10 : decode cX7_placedAt 10 = .ok (.iconst 0, 1) := by decide +kernel
theorem dX7_placedAt_11 : decode cX7_placedAt 11 = .ok (.istore 4, 2) := by decide +kernel
theorem dX7_placedAt_13 : decode cX7_placedAt 13 = .ok (.bipush (-6), 2) := by decide +kernel
theorem dX7_placedAt_15 : decode cX7_placedAt 15 = .ok (.istore 5, 2) := by decide +kernel
theorem dX7_placedAt_17 : decode cX7_placedAt 17 = .ok (.iconst 0, 1) := by decide +kernel
theorem dX7_placedAt_18 : decode cX7_placedAt 18 = .ok (.istore 6, 2) := by decide +kernel
theorem dX7_placedAt_20 : decode cX7_placedAt 20 = .ok (.iload 6, 2) := by decide +kernel
theorem dX7_placedAt_22 : decode cX7_placedAt 22 = .ok (.iload_n 1, 1) := by decide +kernel
theorem dX7_placedAt_23 : decode cX7_placedAt 23 = .ok (.if_icmp .gt 67, 3) := by decide +kernel
theorem dX7_placedAt_26 : decode cX7_placedAt 26 = .ok (.aload_n 0, 1) := by decide +kernel
theorem dX7_placedAt_27 : decode cX7_placedAt 27 = .ok (.iload_n 3, 1) := by decide +kernel
theorem dX7_placedAt_28 : decode cX7_placedAt 28 = .ok (.iload_n 2, 1) := by decide +kernel
theorem dX7_placedAt_29 : decode cX7_placedAt 29 = .ok (.iload 4, 2) := by decide +kernel
theorem dX7_placedAt_31 : decode cX7_placedAt 31 = .ok (.iconst (-1), 1) := by decide +kernel
theorem dX7_placedAt_32 : decode cX7_placedAt 32 = .ok (.ixor, 1) := by decide +kernel
theorem dX7_placedAt_33 : decode cX7_placedAt 33 = .ok (.iand, 1) := by decide +kernel
theorem dX7_placedAt_34 : decode cX7_placedAt 34 = .ok (.invokevirtual 249, 3) := by decide +kernel
theorem dX7_placedAt_37 : decode cX7_placedAt 37 = .ok (.istore 5, 2) := by decide +kernel
theorem dX7_placedAt_39 : decode cX7_placedAt 39 = .ok (.iload 5, 2) := by decide +kernel
theorem dX7_placedAt_41 : decode cX7_placedAt 41 = .ok (.bipush (-6), 2) := by decide +kernel
theorem dX7_placedAt_43 : decode cX7_placedAt 43 = .ok (.if_icmp .ne 6, 3) := by decide +kernel
theorem dX7_placedAt_46 : decode cX7_placedAt 46 = .ok (.bipush (-6), 2) := by decide +kernel
theorem dX7_placedAt_48 : decode cX7_placedAt 48 = .ok (.ireturn, 1) := by decide +kernel
theorem dX7_placedAt_49 : decode cX7_placedAt 49 = .ok (.iload_n 3, 1) := by decide +kernel
theorem dX7_placedAt_50 : decode cX7_placedAt 50 = .ok (.iconst 1, 1) := by decide +kernel
theorem dX7_placedAt_51 : decode cX7_placedAt 51 = .ok (.iload 5, 2) := by decide +kernel
theorem dX7_placedAt_53 : decode cX7_placedAt 53 = .ok (.ishl, 1) := by decide +kernel
theorem dX7_placedAt_54 : decode cX7_placedAt 54 = .ok (.ior, 1) := by decide +kernel
theorem dX7_placedAt_55 : decode cX7_placedAt 55 = .ok (.istore_n 3, 1) := by decide +kernel
theorem dX7_placedAt_56 : decode cX7_placedAt 56 = .ok (.aload_n 0, 1) := by decide +kernel
theorem dX7_placedAt_57 : decode cX7_placedAt 57 = .ok (.getfield 26, 3) := by decide +kernel
theorem dX7_placedAt_60 : decode cX7_placedAt 60 = .ok (.iload 5, 2) := by decide +kernel
theorem dX7_placedAt_62 : decode cX7_placedAt 62 = .ok (.invokevirtual 146, 3) := by decide +kernel
theorem dX7_placedAt_65 : decode cX7_placedAt 65 = .ok (.ifCond .ne 19, 3) := by decide +kernel
theorem dX7_placedAt_68 : decode cX7_placedAt 68 = .ok (.iload 4, 2) := by decide +kernel
theorem dX7_placedAt_70 : decode cX7_placedAt 70 = .ok (.iconst 1, 1) := by decide +kernel
theorem dX7_placedAt_71 : decode cX7_placedAt 71 = .ok (.aload_n 0, 1) := by decide +kernel
theorem dX7_placedAt_72 : decode cX7_placedAt 72 = .ok (.getfield 26, 3) := by decide +kernel
theorem dX7_placedAt_75 : decode cX7_placedAt 75 = .ok (.iload 5, 2) := by decide +kernel
theorem dX7_placedAt_77 : decode cX7_placedAt 77 = .ok (.invokevirtual 143, 3) := by decide +kernel
theorem dX7_placedAt_80 : decode cX7_placedAt 80 = .ok (.ishl, 1) := by decide +kernel
theorem dX7_placedAt_81 : decode cX7_placedAt 81 = .ok (.ior, 1) := by decide +kernel
theorem dX7_placedAt_82 : decode cX7_placedAt 82 = .ok (.istore 4, 2) := by decide +kernel
theorem dX7_placedAt_84 : decode cX7_placedAt 84 = .ok (.iinc 6 1, 3) := by decide +kernel
theorem dX7_placedAt_87 : decode cX7_placedAt 87 = .ok (.goto (-67), 3) := by decide +kernel
theorem dX7_placedAt_90 : decode cX7_placedAt 90 = .ok (.iload 5, 2) := by decide +kernel
theorem dX7_placedAt_92 : decode cX7_placedAt 92 = .ok (.ireturn, 1) := by decide +kernel
theorem dX7_firstFree_0 : decode cX7_firstFree 0 = .ok (.iconst 0, 1) := by decide +kernel
theorem dX7_firstFree_1 : decode cX7_firstFree 1 = .ok (.istore_n 3, 1) := by decide +kernel
theorem dX7_firstFree_2 : decode cX7_firstFree 2 = .ok (.iload_n 3, 1) := by decide +kernel
theorem dX7_firstFree_3 : decode cX7_firstFree 3 = .ok (.aload_n 0, 1) := by decide +kernel
theorem dX7_firstFree_4 : decode cX7_firstFree 4 = .ok (.getfield 26, 3) := by decide +kernel
theorem dX7_firstFree_7 : decode cX7_firstFree 7 = .ok (.invokevirtual 128, 3) := by decide +kernel
theorem dX7_firstFree_10 : decode cX7_firstFree 10 = .ok (.if_icmp .ge 32, 3) := by decide +kernel
theorem dX7_firstFree_13 : decode cX7_firstFree 13 = .ok (.iload_n 1, 1) := by decide +kernel
theorem dX7_firstFree_14 : decode cX7_firstFree 14 = .ok (.iload_n 3, 1) := by decide +kernel
theorem dX7_firstFree_15 : decode cX7_firstFree 15 = .ok (.ishr, 1) := by decide +kernel
theorem dX7_firstFree_16 : decode cX7_firstFree 16 = .ok (.iconst 1, 1) := by decide +kernel
theorem dX7_firstFree_17 : decode cX7_firstFree 17 = .ok (.iand, 1) := by decide +kernel
theorem dX7_firstFree_18 : decode cX7_firstFree 18 = .ok (.ifCond .ne 18, 3) := by decide +kernel
theorem dX7_firstFree_21 : decode cX7_firstFree 21 = .ok (.aload_n 0, 1) := by decide +kernel
theorem dX7_firstFree_22 : decode cX7_firstFree 22 = .ok (.getfield 26, 3) := by decide +kernel
theorem dX7_firstFree_25 : decode cX7_firstFree 25 = .ok (.iload_n 3, 1) := by decide +kernel
theorem dX7_firstFree_26 : decode cX7_firstFree 26 = .ok (.invokevirtual 152, 3) := by decide +kernel
theorem dX7_firstFree_29 : decode cX7_firstFree 29 = .ok (.iload_n 2, 1) := by decide +kernel
theorem dX7_firstFree_30 : decode cX7_firstFree 30 = .ok (.iand, 1) := by decide +kernel
theorem dX7_firstFree_31 : decode cX7_firstFree 31 = .ok (.ifCond .ne 5, 3) := by decide +kernel
theorem dX7_firstFree_34 : decode cX7_firstFree 34 = .ok (.iload_n 3, 1) := by decide +kernel
theorem dX7_firstFree_35 : decode cX7_firstFree 35 = .ok (.ireturn, 1) := by decide +kernel
theorem dX7_firstFree_36 : decode cX7_firstFree 36 = .ok (.iinc 3 1, 3) := by decide +kernel
theorem dX7_firstFree_39 : decode cX7_firstFree 39 = .ok (.goto (-37), 3) := by decide +kernel
theorem dX7_firstFree_42 : decode cX7_firstFree 42 = .ok (.bipush (-6), 2) := by decide +kernel
theorem dX7_firstFree_44 : decode cX7_firstFree 44 = .ok (.ireturn, 1) := by decide +kernel
theorem dX7_mendingWord_0 : decode cX7_mendingWord 0 = .ok (.aload_n 1, 1) := by decide +kernel
theorem dX7_mendingWord_1 : decode cX7_mendingWord 1 = .ok (.iload_n 2, 1) := by decide +kernel
theorem dX7_mendingWord_2 : decode cX7_mendingWord 2 = .ok (.invokevirtual 113, 3) := by decide +kernel
theorem dX7_mendingWord_5 : decode cX7_mendingWord 5 = .ok (.bipush 97, 2) := by decide +kernel
theorem dX7_mendingWord_7 : decode cX7_mendingWord 7 = .ok (.isub, 1) := by decide +kernel
theorem dX7_mendingWord_8 : decode cX7_mendingWord 8 = .ok (.istore 4, 2) := by decide +kernel
theorem dX7_mendingWord_10 : decode cX7_mendingWord 10 = .ok (.aload_n 0, 1) := by decide +kernel
theorem dX7_mendingWord_11 : decode cX7_mendingWord 11 = .ok (.getfield 18, 3) := by decide +kernel
theorem dX7_mendingWord_14 : decode cX7_mendingWord 14 = .ok (.aload_n 1, 1) := by decide +kernel
theorem dX7_mendingWord_15 : decode cX7_mendingWord 15 = .ok (.invokevirtual 252, 3) := by decide +kernel
theorem dX7_mendingWord_18 : decode cX7_mendingWord 18 = .ok (.iconst 0, 1) := by decide +kernel
theorem dX7_mendingWord_19 : decode cX7_mendingWord 19 = .ok (.istore 5, 2) := by decide +kernel
theorem dX7_mendingWord_21 : decode cX7_mendingWord 21 = .ok (.iload 5, 2) := by decide +kernel
theorem dX7_mendingWord_23 : decode cX7_mendingWord 23 = .ok (.bipush 8, 2) := by decide +kernel
theorem dX7_mendingWord_25 : decode cX7_mendingWord 25 = .ok (.if_icmp .ge 48, 3) := by decide +kernel
theorem dX7_mendingWord_28 : decode cX7_mendingWord 28 = .ok (.iload 5, 2) := by decide +kernel
theorem dX7_mendingWord_30 : decode cX7_mendingWord 30 = .ok (.iload 4, 2) := by decide +kernel
theorem dX7_mendingWord_32 : decode cX7_mendingWord 32 = .ok (.if_icmp .eq 35, 3) := by decide +kernel
theorem dX7_mendingWord_35 : decode cX7_mendingWord 35 = .ok (.aload_n 0, 1) := by decide +kernel
theorem dX7_mendingWord_36 : decode cX7_mendingWord 36 = .ok (.getfield 18, 3) := by decide +kernel
theorem dX7_mendingWord_39 : decode cX7_mendingWord 39 = .ok (.iload_n 2, 1) := by decide +kernel
theorem dX7_mendingWord_40 : decode cX7_mendingWord 40 = .ok (.bipush 97, 2) := by decide +kernel
theorem dX7_mendingWord_42 : decode cX7_mendingWord 42 = .ok (.iload 5, 2) := by decide +kernel
theorem dX7_mendingWord_44 : decode cX7_mendingWord 44 = .ok (.iadd, 1) := by decide +kernel
theorem dX7_mendingWord_45 : decode cX7_mendingWord 45 = .ok (.invokevirtual 254, 3) := by decide +kernel
theorem dX7_mendingWord_48 : decode cX7_mendingWord 48 = .ok (.aload_n 0, 1) := by decide +kernel
theorem dX7_mendingWord_49 : decode cX7_mendingWord 49 = .ok (.getfield 41, 3) := by decide +kernel
theorem dX7_mendingWord_52 : decode cX7_mendingWord 52 = .ok (.aload_n 0, 1) := by decide +kernel
theorem dX7_mendingWord_53 : decode cX7_mendingWord 53 = .ok (.getfield 18, 3) := by decide +kernel
theorem dX7_mendingWord_56 : decode cX7_mendingWord 56 = .ok (.iconst 0, 1) := by decide +kernel
theorem dX7_mendingWord_57 : decode cX7_mendingWord 57 = .ok (.invokevirtual 124, 3) := by decide +kernel
theorem dX7_mendingWord_60 : decode cX7_mendingWord 60 = .ok (.iload_n 3, 1) := by decide +kernel
theorem dX7_mendingWord_61 : decode cX7_mendingWord 61 = .ok (.if_icmp .ne 6, 3) := by decide +kernel
theorem dX7_mendingWord_64 : decode cX7_mendingWord 64 = .ok (.iload 5, 2) := by decide +kernel
theorem dX7_mendingWord_66 : decode cX7_mendingWord 66 = .ok (.ireturn, 1) := by decide +kernel
theorem dX7_mendingWord_67 : decode cX7_mendingWord 67 = .ok (.iinc 5 1, 3) := by decide +kernel
theorem dX7_mendingWord_70 : decode cX7_mendingWord 70 = .ok (.goto (-49), 3) := by decide +kernel
theorem dX7_mendingWord_73 : decode cX7_mendingWord 73 = .ok (.bipush (-6), 2) := by decide +kernel
theorem dX7_mendingWord_75 : decode cX7_mendingWord 75 = .ok (.ireturn, 1) := by decide +kernel
