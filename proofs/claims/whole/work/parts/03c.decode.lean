theorem dX8_init_0 : decode cX8_init 0 = .ok (.aload_n 0, 1) := by decide +kernel
theorem dX8_init_1 : decode cX8_init 1 = .ok (.invokespecial 1, 3) := by decide +kernel
theorem dX8_init_4 : decode cX8_init 4 = .ok (.aload_n 0, 1) := by decide +kernel
theorem dX8_init_5 : decode cX8_init 5 = .ok (.sipush 2440, 3) := by decide +kernel
theorem dX8_init_8 : decode cX8_init 8 = .ok (.newarray .int, 2) := by decide +kernel
theorem dX8_init_10 : decode cX8_init 10 = .ok (.putfield 7, 3) := by decide +kernel
theorem dX8_init_13 : decode cX8_init 13 = .ok (.aload_n 0, 1) := by decide +kernel
theorem dX8_init_14 : decode cX8_init 14 = .ok (.sipush 2440, 3) := by decide +kernel
theorem dX8_init_17 : decode cX8_init 17 = .ok (.newarray .int, 2) := by decide +kernel
theorem dX8_init_19 : decode cX8_init 19 = .ok (.putfield 13, 3) := by decide +kernel
theorem dX8_init_22 : decode cX8_init 22 = .ok (.aload_n 0, 1) := by decide +kernel
theorem dX8_init_23 : decode cX8_init 23 = .ok (.bipush 61, 2) := by decide +kernel
theorem dX8_init_25 : decode cX8_init 25 = .ok (.newarray .int, 2) := by decide +kernel
theorem dX8_init_27 : decode cX8_init 27 = .ok (.putfield 16, 3) := by decide +kernel
theorem dX8_init_30 : decode cX8_init 30 = .ok (.aload_n 0, 1) := by decide +kernel
theorem dX8_init_31 : decode cX8_init 31 = .ok (.bipush 12, 2) := by decide +kernel
theorem dX8_init_33 : decode cX8_init 33 = .ok (.newarray .int, 2) := by decide +kernel
theorem dX8_init_35 : decode cX8_init 35 = .ok (.putfield 19, 3) := by decide +kernel
theorem dX8_init_38 : decode cX8_init 38 = .ok (.aload_n 0, 1) := by decide +kernel
theorem dX8_init_39 : decode cX8_init 39 = .ok (.bipush 12, 2) := by decide +kernel
theorem dX8_init_41 : decode cX8_init 41 = .ok (.newarray .int, 2) := by decide +kernel
theorem dX8_init_43 : decode cX8_init 43 = .ok (.putfield 22, 3) := by decide +kernel
theorem dX8_init_46 : decode cX8_init 46 = .ok (.aload_n 0, 1) := by decide +kernel
theorem dX8_init_47 : decode cX8_init 47 = .ok (.bipush 7, 2) := by decide +kernel
theorem dX8_init_49 : decode cX8_init 49 = .ok (.newarray .int, 2) := by decide +kernel
theorem dX8_init_51 : decode cX8_init 51 = .ok (.putfield 25, 3) := by decide +kernel
theorem dX8_init_54 : decode cX8_init 54 = .ok (.aload_n 0, 1) := by decide +kernel
theorem dX8_init_55 : decode cX8_init 55 = .ok (.sipush 200, 3) := by decide +kernel
theorem dX8_init_58 : decode cX8_init 58 = .ok (.newarray .int, 2) := by decide +kernel
theorem dX8_init_60 : decode cX8_init 60 = .ok (.putfield 28, 3) := by decide +kernel
theorem dX8_init_63 : decode cX8_init 63 = .ok (.aload_n 0, 1) := by decide +kernel
theorem dX8_init_64 : decode cX8_init 64 = .ok (.sipush 200, 3) := by decide +kernel
theorem dX8_init_67 : decode cX8_init 67 = .ok (.newarray .int, 2) := by decide +kernel
theorem dX8_init_69 : decode cX8_init 69 = .ok (.putfield 31, 3) := by decide +kernel
theorem dX8_init_72 : decode cX8_init 72 = .ok (.aload_n 0, 1) := by decide +kernel
theorem dX8_init_73 : decode cX8_init 73 = .ok (.sipush 200, 3) := by decide +kernel
theorem dX8_init_76 : decode cX8_init 76 = .ok (.newarray .int, 2) := by decide +kernel
theorem dX8_init_78 : decode cX8_init 78 = .ok (.putfield 34, 3) := by decide +kernel
theorem dX8_init_81 : decode cX8_init 81 = .ok (.aload_n 0, 1) := by decide +kernel
theorem dX8_init_82 : decode cX8_init 82 = .ok (.bipush 8, 2) := by decide +kernel
theorem dX8_init_84 : decode cX8_init 84 = .ok (.newarray .int, 2) := by decide +kernel
theorem dX8_init_86 : decode cX8_init 86 = .ok (.putfield 37, 3) := by decide +kernel
theorem dX8_init_89 : decode cX8_init 89 = .ok (.aload_n 0, 1) := by decide +kernel
theorem dX8_init_90 : decode cX8_init 90 = .ok (.sipush 4096, 3) := by decide +kernel
theorem dX8_init_93 : decode cX8_init 93 = .ok (.newarray .int, 2) := by decide +kernel
theorem dX8_init_95 : decode cX8_init 95 = .ok (.putfield 40, 3) := by decide +kernel
theorem dX8_init_98 : decode cX8_init 98 = .ok (.aload_n 0, 1) := by decide +kernel
theorem dX8_init_99 : decode cX8_init 99 = .ok (.sipush 320, 3) := by decide +kernel
theorem dX8_init_102 : decode cX8_init 102 = .ok (.newarray .int, 2) := by decide +kernel
theorem dX8_init_104 : decode cX8_init 104 = .ok (.putfield 43, 3) := by decide +kernel
theorem dX8_init_107 : decode cX8_init 107 = .ok (.aload_n 0, 1) := by decide +kernel
theorem dX8_init_108 : decode cX8_init 108 = .ok (.bipush 6, 2) := by decide +kernel
theorem dX8_init_110 : decode cX8_init 110 = .ok (.newarray .int, 2) := by decide +kernel
theorem dX8_init_112 : decode cX8_init 112 = .ok (.putfield 46, 3) := by decide +kernel
theorem dX8_init_115 : decode cX8_init 115 = .ok (.aload_n 0, 1) := by decide +kernel
theorem dX8_init_116 : decode cX8_init 116 = .ok (.sipush 320, 3) := by decide +kernel
theorem dX8_init_119 : decode cX8_init 119 = .ok (.newarray .int, 2) := by decide +kernel
theorem dX8_init_121 : decode cX8_init 121 = .ok (.putfield 49, 3) := by decide +kernel
theorem dX8_init_124 : decode cX8_init 124 = .ok (.aload_n 0, 1) := by decide +kernel
theorem dX8_init_125 : decode cX8_init 125 = .ok (.sipush 320, 3) := by decide +kernel
theorem dX8_init_128 : decode cX8_init 128 = .ok (.newarray .int, 2) := by decide +kernel
theorem dX8_init_130 : decode cX8_init 130 = .ok (.putfield 52, 3) := by decide +kernel
theorem dX8_init_133 : decode cX8_init 133 = .ok (.aload_n 0, 1) := by decide +kernel
theorem dX8_init_134 : decode cX8_init 134 = .ok (.sipush 5000, 3) := by decide +kernel
theorem dX8_init_137 : decode cX8_init 137 = .ok (.newarray .int, 2) := by decide +kernel
theorem dX8_init_139 : decode cX8_init 139 = .ok (.putfield 55, 3) := by decide +kernel
theorem dX8_init_142 : decode cX8_init 142 = .ok (.aload_n 0, 1) := by decide +kernel
theorem dX8_init_143 : decode cX8_init 143 = .ok (.iconst 2, 1) := by decide +kernel
theorem dX8_init_144 : decode cX8_init 144 = .ok (.newarray .boolean, 2) := by decide +kernel
theorem dX8_init_146 : decode cX8_init 146 = .ok (.putfield 58, 3) := by decide +kernel
theorem dX8_init_149 : decode cX8_init 149 = .ok (.aload_n 0, 1) := by decide +kernel
theorem dX8_init_150 : decode cX8_init 150 = .ok (.iconst 1, 1) := by decide +kernel
theorem dX8_init_151 : decode cX8_init 151 = .ok (.putfield 62, 3) := by decide +kernel
theorem dX8_init_154 : decode cX8_init 154 = .ok (.return_, 1) := by decide +kernel
theorem dX8_in_0 : decode cX8_in 0 = .ok (.iload_n 0, 1) := by decide +kernel
theorem dX8_in_1 : decode cX8_in 1 = .ok (.iload_n 1, 1) := by decide +kernel
theorem dX8_in_2 : decode cX8_in 2 = .ok (.if_icmp .lt 12, 3) := by decide +kernel
theorem dX8_in_5 : decode cX8_in 5 = .ok (.iload_n 0, 1) := by decide +kernel
theorem dX8_in_6 : decode cX8_in 6 = .ok (.iload_n 2, 1) := by decide +kernel
theorem dX8_in_7 : decode cX8_in 7 = .ok (.if_icmp .gt 7, 3) := by decide +kernel
theorem dX8_in_10 : decode cX8_in 10 = .ok (.iconst 1, 1) := by decide +kernel
theorem dX8_in_11 : decode cX8_in 11 = .ok (.goto 4, 3) := by decide +kernel
theorem dX8_in_14 : decode cX8_in 14 = .ok (.iconst 0, 1) := by decide +kernel
theorem dX8_in_15 : decode cX8_in 15 = .ok (.ireturn, 1) := by decide +kernel
theorem dX8_isWord_0 : decode cX8_isWord 0 = .ok (.iload_n 0, 1) := by decide +kernel
theorem dX8_isWord_1 : decode cX8_isWord 1 = .ok (.iconst 0, 1) := by decide +kernel
theorem dX8_isWord_2 : decode cX8_isWord 2 = .ok (.bipush 7, 2) := by decide +kernel
theorem dX8_isWord_4 : decode cX8_isWord 4 = .ok (.invokestatic 66, 3) := by decide +kernel
theorem dX8_isWord_7 : decode cX8_isWord 7 = .ok (.ireturn, 1) := by decide +kernel
theorem dX8_isVersion_0 : decode cX8_isVersion 0 = .ok (.iload_n 1, 1) := by decide +kernel
theorem dX8_isVersion_1 : decode cX8_isVersion 1 = .ok (.iconst 0, 1) := by decide +kernel
theorem dX8_isVersion_2 : decode cX8_isVersion 2 = .ok (.aload_n 0, 1) := by decide +kernel
theorem dX8_isVersion_3 : decode cX8_isVersion 3 = .ok (.getfield 62, 3) := by decide +kernel
theorem dX8_isVersion_6 : decode cX8_isVersion 6 = .ok (.iconst 1, 1) := by decide +kernel
theorem dX8_isVersion_7 : decode cX8_isVersion 7 = .ok (.isub, 1) := by decide +kernel
theorem dX8_isVersion_8 : decode cX8_isVersion 8 = .ok (.invokestatic 66, 3) := by decide +kernel
theorem dX8_isVersion_11 : decode cX8_isVersion 11 = .ok (.ireturn, 1) := by decide +kernel
theorem dX8_isPage_0 : decode cX8_isPage 0 = .ok (.iload_n 1, 1) := by decide +kernel
theorem dX8_isPage_1 : decode cX8_isPage 1 = .ok (.iconst 0, 1) := by decide +kernel
theorem dX8_isPage_2 : decode cX8_isPage 2 = .ok (.aload_n 0, 1) := by decide +kernel
theorem dX8_isPage_3 : decode cX8_isPage 3 = .ok (.getfield 70, 3) := by decide +kernel
theorem dX8_isPage_6 : decode cX8_isPage 6 = .ok (.iconst 1, 1) := by decide +kernel
theorem dX8_isPage_7 : decode cX8_isPage 7 = .ok (.isub, 1) := by decide +kernel
theorem dX8_isPage_8 : decode cX8_isPage 8 = .ok (.invokestatic 66, 3) := by decide +kernel
theorem dX8_isPage_11 : decode cX8_isPage 11 = .ok (.ireturn, 1) := by decide +kernel
theorem dX8_isExample_0 : decode cX8_isExample 0 = .ok (.aload_n 0, 1) := by decide +kernel
theorem dX8_isExample_1 : decode cX8_isExample 1 = .ok (.iload_n 1, 1) := by decide +kernel
theorem dX8_isExample_2 : decode cX8_isExample 2 = .ok (.invokevirtual 73, 3) := by decide +kernel
theorem dX8_isExample_5 : decode cX8_isExample 5 = .ok (.ifCond .eq 16, 3) := by decide +kernel
theorem dX8_isExample_8 : decode cX8_isExample 8 = .ok (.aload_n 0, 1) := by decide +kernel
theorem dX8_isExample_9 : decode cX8_isExample 9 = .ok (.getfield 19, 3) := by decide +kernel
theorem dX8_isExample_12 : decode cX8_isExample 12 = .ok (.iload_n 1, 1) := by decide +kernel
theorem dX8_isExample_13 : decode cX8_isExample 13 = .ok (.iaload, 1) := by decide +kernel
theorem dX8_isExample_14 : decode cX8_isExample 14 = .ok (.ifCond .ge 7, 3) := by decide +kernel
theorem dX8_isExample_17 : decode cX8_isExample 17 = .ok (.iconst 1, 1) := by decide +kernel
theorem dX8_isExample_18 : decode cX8_isExample 18 = .ok (.goto 4, 3) := by decide +kernel
theorem dX8_isExample_21 : decode cX8_isExample 21 = .ok (.iconst 0, 1) := by decide +kernel
theorem dX8_isExample_22 : decode cX8_isExample 22 = .ok (.ireturn, 1) := by decide +kernel
theorem dX8_bits_0 : decode cX8_bits 0 = .ok (.iconst 0, 1) := by decide +kernel
theorem dX8_bits_1 : decode cX8_bits 1 = .ok (.istore_n 1, 1) := by decide +kernel
theorem dX8_bits_2 : decode cX8_bits 2 = .ok (.iconst 0, 1) := by decide +kernel
theorem dX8_bits_3 : decode cX8_bits 3 = .ok (.istore_n 2, 1) := by decide +kernel
theorem dX8_bits_4 : decode cX8_bits 4 = .ok (.iload_n 2, 1) := by decide +kernel
theorem dX8_bits_5 : decode cX8_bits 5 = .ok (.bipush 12, 2) := by decide +kernel
theorem dX8_bits_7 : decode cX8_bits 7 = .ok (.if_icmp .ge 17, 3) := by decide +kernel
theorem dX8_bits_10 : decode cX8_bits 10 = .ok (.iload_n 1, 1) := by decide +kernel
theorem dX8_bits_11 : decode cX8_bits 11 = .ok (.iload_n 0, 1) := by decide +kernel
theorem dX8_bits_12 : decode cX8_bits 12 = .ok (.iload_n 2, 1) := by decide +kernel
theorem dX8_bits_13 : decode cX8_bits 13 = .ok (.ishr, 1) := by decide +kernel
theorem dX8_bits_14 : decode cX8_bits 14 = .ok (.iconst 1, 1) := by decide +kernel
theorem dX8_bits_15 : decode cX8_bits 15 = .ok (.iand, 1) := by decide +kernel
theorem dX8_bits_16 : decode cX8_bits 16 = .ok (.iadd, 1) := by decide +kernel
theorem dX8_bits_17 : decode cX8_bits 17 = .ok (.istore_n 1, 1) := by decide +kernel
theorem dX8_bits_18 : decode cX8_bits 18 = .ok (.iinc 2 1, 3) := by decide +kernel
theorem dX8_bits_21 : decode cX8_bits 21 = .ok (.goto (-17), 3) := by decide +kernel
theorem dX8_bits_24 : decode cX8_bits 24 = .ok (.iload_n 1, 1) := by decide +kernel
theorem dX8_bits_25 : decode cX8_bits 25 = .ok (.ireturn, 1) := by decide +kernel
theorem dX8_say_0 : decode cX8_say 0 = .ok (.iload_n 1, 1) := by decide +kernel
theorem dX8_say_1 : decode cX8_say 1 = .ok (.bipush 33, 2) := by decide +kernel
theorem dX8_say_3 : decode cX8_say 3 = .ok (.bipush 126, 2) := by decide +kernel
theorem dX8_say_5 : decode cX8_say 5 = .ok (.invokestatic 66, 3) := by decide +kernel
theorem dX8_say_8 : decode cX8_say 8 = .ok (.ifCond .ne 6, 3) := by decide +kernel
theorem dX8_say_11 : decode cX8_say 11 = .ok (.bipush (-2), 2) := by decide +kernel
theorem dX8_say_13 : decode cX8_say 13 = .ok (.ireturn, 1) := by decide +kernel
theorem dX8_say_14 : decode cX8_say 14 = .ok (.aload_n 0, 1) := by decide +kernel
theorem dX8_say_15 : decode cX8_say 15 = .ok (.getfield 16, 3) := by decide +kernel
theorem dX8_say_18 : decode cX8_say 18 = .ok (.bipush 60, 2) := by decide +kernel
theorem dX8_say_20 : decode cX8_say 20 = .ok (.iaload, 1) := by decide +kernel
theorem dX8_say_21 : decode cX8_say 21 = .ok (.bipush 40, 2) := by decide +kernel
theorem dX8_say_23 : decode cX8_say 23 = .ok (.if_icmp .ne 6, 3) := by decide +kernel
theorem dX8_say_26 : decode cX8_say 26 = .ok (.bipush (-4), 2) := by decide +kernel
theorem dX8_say_28 : decode cX8_say 28 = .ok (.ireturn, 1) := by decide +kernel
theorem dX8_say_29 : decode cX8_say 29 = .ok (.aload_n 0, 1) := by decide +kernel
theorem dX8_say_30 : decode cX8_say 30 = .ok (.getfield 7, 3) := by decide +kernel
theorem dX8_say_33 : decode cX8_say 33 = .ok (.sipush 2400, 3) := by decide +kernel
theorem dX8_say_36 : decode cX8_say 36 = .ok (.aload_n 0, 1) := by decide +kernel
theorem dX8_say_37 : decode cX8_say 37 = .ok (.getfield 16, 3) := by decide +kernel
theorem dX8_say_40 : decode cX8_say 40 = .ok (.bipush 60, 2) := by decide +kernel
theorem dX8_say_42 : decode cX8_say 42 = .ok (.iaload, 1) := by decide +kernel
theorem dX8_say_43 : decode cX8_say 43 = .ok (.iadd, 1) := by decide +kernel
theorem dX8_say_44 : decode cX8_say 44 = .ok (.iload_n 1, 1) := by decide +kernel
theorem dX8_say_45 : decode cX8_say 45 = .ok (.iastore, 1) := by decide +kernel
theorem dX8_say_46 : decode cX8_say 46 = .ok (.aload_n 0, 1) := by decide +kernel
theorem dX8_say_47 : decode cX8_say 47 = .ok (.getfield 16, 3) := by decide +kernel
theorem dX8_say_50 : decode cX8_say 50 = .ok (.bipush 60, 2) := by decide +kernel
theorem dX8_say_52 : decode cX8_say 52 = .ok (.dup2, 1) := by decide +kernel
theorem dX8_say_53 : decode cX8_say 53 = .ok (.iaload, 1) := by decide +kernel
theorem dX8_say_54 : decode cX8_say 54 = .ok (.iconst 1, 1) := by decide +kernel
theorem dX8_say_55 : decode cX8_say 55 = .ok (.iadd, 1) := by decide +kernel
theorem dX8_say_56 : decode cX8_say 56 = .ok (.iastore, 1) := by decide +kernel
theorem dX8_say_57 : decode cX8_say 57 = .ok (.aload_n 0, 1) := by decide +kernel
theorem dX8_say_58 : decode cX8_say 58 = .ok (.getfield 16, 3) := by decide +kernel
theorem dX8_say_61 : decode cX8_say 61 = .ok (.bipush 60, 2) := by decide +kernel
theorem dX8_say_63 : decode cX8_say 63 = .ok (.iaload, 1) := by decide +kernel
theorem dX8_say_64 : decode cX8_say 64 = .ok (.ireturn, 1) := by decide +kernel
theorem dX8_wipe_0 : decode cX8_wipe 0 = .ok (.aload_n 0, 1) := by decide +kernel
theorem dX8_wipe_1 : decode cX8_wipe 1 = .ok (.getfield 16, 3) := by decide +kernel
theorem dX8_wipe_4 : decode cX8_wipe 4 = .ok (.bipush 60, 2) := by decide +kernel
theorem dX8_wipe_6 : decode cX8_wipe 6 = .ok (.iaload, 1) := by decide +kernel
theorem dX8_wipe_7 : decode cX8_wipe 7 = .ok (.istore_n 1, 1) := by decide +kernel
theorem dX8_wipe_8 : decode cX8_wipe 8 = .ok (.aload_n 0, 1) := by decide +kernel
theorem dX8_wipe_9 : decode cX8_wipe 9 = .ok (.getfield 16, 3) := by decide +kernel
theorem dX8_wipe_12 : decode cX8_wipe 12 = .ok (.bipush 60, 2) := by decide +kernel
theorem dX8_wipe_14 : decode cX8_wipe 14 = .ok (.iconst 0, 1) := by decide +kernel
theorem dX8_wipe_15 : decode cX8_wipe 15 = .ok (.iastore, 1) := by decide +kernel
theorem dX8_wipe_16 : decode cX8_wipe 16 = .ok (.iload_n 1, 1) := by decide +kernel
theorem dX8_wipe_17 : decode cX8_wipe 17 = .ok (.ireturn, 1) := by decide +kernel
theorem dX8_partsOf_0 : decode cX8_partsOf 0 = .ok (.iload_n 0, 1) := by decide +kernel
theorem dX8_partsOf_1 : decode cX8_partsOf 1 = .ok (.bipush 48, 2) := by decide +kernel
theorem dX8_partsOf_3 : decode cX8_partsOf 3 = .ok (.bipush 57, 2) := by decide +kernel
theorem dX8_partsOf_5 : decode cX8_partsOf 5 = .ok (.invokestatic 66, 3) := by decide +kernel
theorem dX8_partsOf_8 : decode cX8_partsOf 8 = .ok (.ifCond .ne 9, 3) := by decide +kernel
theorem dX8_partsOf_11 : decode cX8_partsOf 11 = .ok (.iload_n 0, 1) := by decide +kernel
theorem dX8_partsOf_12 : decode cX8_partsOf 12 = .ok (.bipush 120, 2) := by decide +kernel
theorem dX8_partsOf_14 : decode cX8_partsOf 14 = .ok (.if_icmp .ne 5, 3) := by decide +kernel
theorem dX8_partsOf_17 : decode cX8_partsOf 17 = .ok (.iconst 0, 1) := by decide +kernel
theorem dX8_partsOf_18 : decode cX8_partsOf 18 = .ok (.ireturn, 1) := by decide +kernel
theorem dX8_partsOf_19 : decode cX8_partsOf 19 = .ok (.iload_n 0, 1) := by decide +kernel
theorem dX8_partsOf_20 : decode cX8_partsOf 20 = .ok (.bipush 97, 2) := by decide +kernel
theorem dX8_partsOf_22 : decode cX8_partsOf 22 = .ok (.bipush 104, 2) := by decide +kernel
theorem dX8_partsOf_24 : decode cX8_partsOf 24 = .ok (.invokestatic 66, 3) := by decide +kernel
theorem dX8_partsOf_27 : decode cX8_partsOf 27 = .ok (.ifCond .eq 5, 3) := by decide +kernel
theorem dX8_partsOf_30 : decode cX8_partsOf 30 = .ok (.iconst 1, 1) := by decide +kernel
theorem dX8_partsOf_31 : decode cX8_partsOf 31 = .ok (.ireturn, 1) := by decide +kernel
theorem dX8_partsOf_32 : decode cX8_partsOf 32 = .ok (.iload_n 0, 1) := by decide +kernel
theorem dX8_partsOf_33 : decode cX8_partsOf 33 = .ok (.bipush 43, 2) := by decide +kernel
theorem dX8_partsOf_35 : decode cX8_partsOf 35 = .ok (.if_icmp .eq 21, 3) := by decide +kernel
theorem dX8_partsOf_38 : decode cX8_partsOf 38 = .ok (.iload_n 0, 1) := by decide +kernel
theorem dX8_partsOf_39 : decode cX8_partsOf 39 = .ok (.bipush 45, 2) := by decide +kernel
theorem dX8_partsOf_41 : decode cX8_partsOf 41 = .ok (.if_icmp .eq 15, 3) := by decide +kernel
theorem dX8_partsOf_44 : decode cX8_partsOf 44 = .ok (.iload_n 0, 1) := by decide +kernel
theorem dX8_partsOf_45 : decode cX8_partsOf 45 = .ok (.bipush 42, 2) := by decide +kernel
theorem dX8_partsOf_47 : decode cX8_partsOf 47 = .ok (.if_icmp .eq 9, 3) := by decide +kernel
theorem dX8_partsOf_50 : decode cX8_partsOf 50 = .ok (.iload_n 0, 1) := by decide +kernel
theorem dX8_partsOf_51 : decode cX8_partsOf 51 = .ok (.bipush 109, 2) := by decide +kernel
theorem dX8_partsOf_53 : decode cX8_partsOf 53 = .ok (.if_icmp .ne 7, 3) := by decide +kernel
theorem dX8_partsOf_56 : decode cX8_partsOf 56 = .ok (.iconst 2, 1) := by decide +kernel
theorem dX8_partsOf_57 : decode cX8_partsOf 57 = .ok (.goto 15, 3) := by decide +kernel
theorem dX8_partsOf_60 : decode cX8_partsOf 60 = .ok (.iload_n 0, 1) := by decide +kernel
theorem dX8_partsOf_61 : decode cX8_partsOf 61 = .ok (.bipush 63, 2) := by decide +kernel
theorem dX8_partsOf_63 : decode cX8_partsOf 63 = .ok (.if_icmp .ne 7, 3) := by decide +kernel
theorem dX8_partsOf_66 : decode cX8_partsOf 66 = .ok (.iconst 3, 1) := by decide +kernel
theorem dX8_partsOf_67 : decode cX8_partsOf 67 = .ok (.goto 5, 3) := by decide +kernel
theorem dX8_partsOf_70 : decode cX8_partsOf 70 = .ok (.bipush (-6), 2) := by decide +kernel
theorem dX8_partsOf_72 : decode cX8_partsOf 72 = .ok (.ireturn, 1) := by decide +kernel
theorem dX8_faultOf_0 : decode cX8_faultOf 0 = .ok (.iconst 0, 1) := by decide +kernel
theorem dX8_faultOf_1 : decode cX8_faultOf 1 = .ok (.istore_n 1, 1) := by decide +kernel
theorem dX8_faultOf_2 : decode cX8_faultOf 2 = .ok (.iconst 0, 1) := by decide +kernel
theorem dX8_faultOf_3 : decode cX8_faultOf 3 = .ok (.istore_n 2, 1) := by decide +kernel
theorem dX8_faultOf_4 : decode cX8_faultOf 4 = .ok (.iload_n 2, 1) := by decide +kernel
theorem dX8_faultOf_5 : decode cX8_faultOf 5 = .ok (.aload_n 0, 1) := by decide +kernel
theorem dX8_faultOf_6 : decode cX8_faultOf 6 = .ok (.getfield 16, 3) := by decide +kernel
theorem dX8_faultOf_9 : decode cX8_faultOf 9 = .ok (.bipush 60, 2) := by decide +kernel
theorem dX8_faultOf_11 : decode cX8_faultOf 11 = .ok (.iaload, 1) := by decide +kernel
theorem dX8_faultOf_12 : decode cX8_faultOf 12 = .ok (.if_icmp .ge 160, 3) := by decide +kernel
theorem dX8_faultOf_15 : decode cX8_faultOf 15 = .ok (.aload_n 0, 1) := by decide +kernel
theorem dX8_faultOf_16 : decode cX8_faultOf 16 = .ok (.getfield 7, 3) := by decide +kernel
theorem dX8_faultOf_19 : decode cX8_faultOf 19 = .ok (.sipush 2400, 3) := by decide +kernel
theorem dX8_faultOf_22 : decode cX8_faultOf 22 = .ok (.iload_n 2, 1) := by decide +kernel
theorem dX8_faultOf_23 : decode cX8_faultOf 23 = .ok (.iadd, 1) := by decide +kernel
theorem dX8_faultOf_24 : decode cX8_faultOf 24 = .ok (.iaload, 1) := by decide +kernel
theorem dX8_faultOf_25 : decode cX8_faultOf 25 = .ok (.invokestatic 77, 3) := by decide +kernel
theorem dX8_faultOf_28 : decode cX8_faultOf 28 = .ok (.istore_n 3, 1) := by decide +kernel
theorem dX8_faultOf_29 : decode cX8_faultOf 29 = .ok (.iload_n 3, 1) := by decide +kernel
theorem dX8_faultOf_30 : decode cX8_faultOf 30 = .ok (.ifCond .lt 13, 3) := by decide +kernel
theorem dX8_faultOf_33 : decode cX8_faultOf 33 = .ok (.iload_n 3, 1) := by decide +kernel
theorem dX8_faultOf_34 : decode cX8_faultOf 34 = .ok (.ifCond .le 11, 3) := by decide +kernel
theorem dX8_faultOf_37 : decode cX8_faultOf 37 = .ok (.iload_n 1, 1) := by decide +kernel
theorem dX8_faultOf_38 : decode cX8_faultOf 38 = .ok (.bipush 6, 2) := by decide +kernel
theorem dX8_faultOf_40 : decode cX8_faultOf 40 = .ok (.if_icmp .ne 5, 3) := by decide +kernel
theorem dX8_faultOf_43 : decode cX8_faultOf 43 = .ok (.iload_n 2, 1) := by decide +kernel
theorem dX8_faultOf_44 : decode cX8_faultOf 44 = .ok (.ireturn, 1) := by decide +kernel
theorem dX8_faultOf_45 : decode cX8_faultOf 45 = .ok (.iload_n 3, 1) := by decide +kernel
theorem dX8_faultOf_46 : decode cX8_faultOf 46 = .ok (.ifCond .le 16, 3) := by decide +kernel
theorem dX8_faultOf_49 : decode cX8_faultOf 49 = .ok (.aload_n 0, 1) := by decide +kernel
theorem dX8_faultOf_50 : decode cX8_faultOf 50 = .ok (.getfield 25, 3) := by decide +kernel
theorem dX8_faultOf_53 : decode cX8_faultOf 53 = .ok (.iload_n 1, 1) := by decide +kernel
theorem dX8_faultOf_54 : decode cX8_faultOf 54 = .ok (.iload_n 3, 1) := by decide +kernel
theorem dX8_faultOf_55 : decode cX8_faultOf 55 = .ok (.iastore, 1) := by decide +kernel
theorem dX8_faultOf_56 : decode cX8_faultOf 56 = .ok (.iinc 1 1, 3) := by decide +kernel
theorem dX8_faultOf_59 : decode cX8_faultOf 59 = .ok (.goto 107, 3) := by decide +kernel
theorem dX8_faultOf_62 : decode cX8_faultOf 62 = .ok (.iload_n 1, 1) := by decide +kernel
theorem dX8_faultOf_63 : decode cX8_faultOf 63 = .ok (.ifCond .le 7, 3) := by decide +kernel
theorem dX8_faultOf_66 : decode cX8_faultOf 66 = .ok (.iconst 1, 1) := by decide +kernel
theorem dX8_faultOf_67 : decode cX8_faultOf 67 = .ok (.goto 4, 3) := by decide +kernel
theorem dX8_faultOf_70 : decode cX8_faultOf 70 = .ok (.iconst 0, 1) := by decide +kernel
theorem dX8_faultOf_71 : decode cX8_faultOf 71 = .ok (.istore 4, 2) := by decide +kernel
theorem dX8_faultOf_73 : decode cX8_faultOf 73 = .ok (.iload 4, 2) := by decide +kernel
theorem dX8_faultOf_75 : decode cX8_faultOf 75 = .ok (.ifCond .eq 65, 3) := by decide +kernel
theorem dX8_faultOf_78 : decode cX8_faultOf 78 = .ok (.aload_n 0, 1) := by decide +kernel
theorem dX8_faultOf_79 : decode cX8_faultOf 79 = .ok (.getfield 25, 3) := by decide +kernel
theorem dX8_faultOf_82 : decode cX8_faultOf 82 = .ok (.iload_n 1, 1) := by decide +kernel
theorem dX8_faultOf_83 : decode cX8_faultOf 83 = .ok (.iconst 1, 1) := by decide +kernel
theorem dX8_faultOf_84 : decode cX8_faultOf 84 = .ok (.isub, 1) := by decide +kernel
theorem dX8_faultOf_85 : decode cX8_faultOf 85 = .ok (.dup2, 1) := by decide +kernel
theorem dX8_faultOf_86 : decode cX8_faultOf 86 = .ok (.iaload, 1) := by decide +kernel
theorem dX8_faultOf_87 : decode cX8_faultOf 87 = .ok (.iconst 1, 1) := by decide +kernel
theorem dX8_faultOf_88 : decode cX8_faultOf 88 = .ok (.isub, 1) := by decide +kernel
theorem dX8_faultOf_89 : decode cX8_faultOf 89 = .ok (.iastore, 1) := by decide +kernel
theorem dX8_faultOf_90 : decode cX8_faultOf 90 = .ok (.aload_n 0, 1) := by decide +kernel
theorem dX8_faultOf_91 : decode cX8_faultOf 91 = .ok (.getfield 25, 3) := by decide +kernel
theorem dX8_faultOf_94 : decode cX8_faultOf 94 = .ok (.iload_n 1, 1) := by decide +kernel
theorem dX8_faultOf_95 : decode cX8_faultOf 95 = .ok (.iconst 1, 1) := by decide +kernel
theorem dX8_faultOf_96 : decode cX8_faultOf 96 = .ok (.isub, 1) := by decide +kernel
theorem dX8_faultOf_97 : decode cX8_faultOf 97 = .ok (.iaload, 1) := by decide +kernel
theorem dX8_faultOf_98 : decode cX8_faultOf 98 = .ok (.ifCond .ne 7, 3) := by decide +kernel
theorem dX8_faultOf_101 : decode cX8_faultOf 101 = .ok (.iconst 1, 1) := by decide +kernel
theorem dX8_faultOf_102 : decode cX8_faultOf 102 = .ok (.goto 4, 3) := by decide +kernel
theorem dX8_faultOf_105 : decode cX8_faultOf 105 = .ok (.iconst 0, 1) := by decide +kernel
theorem dX8_faultOf_106 : decode cX8_faultOf 106 = .ok (.istore 4, 2) := by decide +kernel
theorem dX8_faultOf_108 : decode cX8_faultOf 108 = .ok (.iload_n 1, 1) := by decide +kernel
theorem dX8_faultOf_109 : decode cX8_faultOf 109 = .ok (.iload 4, 2) := by decide +kernel
theorem dX8_faultOf_111 : decode cX8_faultOf 111 = .ok (.ifCond .eq 7, 3) := by decide +kernel
theorem dX8_faultOf_114 : decode cX8_faultOf 114 = .ok (.iconst 1, 1) := by decide +kernel
theorem dX8_faultOf_115 : decode cX8_faultOf 115 = .ok (.goto 4, 3) := by decide +kernel
theorem dX8_faultOf_118 : decode cX8_faultOf 118 = .ok (.iconst 0, 1) := by decide +kernel
theorem dX8_faultOf_119 : decode cX8_faultOf 119 = .ok (.isub, 1) := by decide +kernel
theorem dX8_faultOf_120 : decode cX8_faultOf 120 = .ok (.istore_n 1, 1) := by decide +kernel
theorem dX8_faultOf_121 : decode cX8_faultOf 121 = .ok (.iload 4, 2) := by decide +kernel
theorem dX8_faultOf_123 : decode cX8_faultOf 123 = .ok (.ifCond .eq 11, 3) := by decide +kernel
theorem dX8_faultOf_126 : decode cX8_faultOf 126 = .ok (.iload_n 1, 1) := by decide +kernel
theorem dX8_faultOf_127 : decode cX8_faultOf 127 = .ok (.ifCond .le 7, 3) := by decide +kernel
theorem dX8_faultOf_130 : decode cX8_faultOf 130 = .ok (.iconst 1, 1) := by decide +kernel
theorem dX8_faultOf_131 : decode cX8_faultOf 131 = .ok (.goto 4, 3) := by decide +kernel
theorem dX8_faultOf_134 : decode cX8_faultOf 134 = .ok (.iconst 0, 1) := by decide +kernel
theorem dX8_faultOf_135 : decode cX8_faultOf 135 = .ok (.istore 4, 2) := by decide +kernel
theorem dX8_faultOf_137 : decode cX8_faultOf 137 = .ok (.goto (-64), 3) := by decide +kernel
theorem dX8_faultOf_140 : decode cX8_faultOf 140 = .ok (.iload_n 1, 1) := by decide +kernel
theorem dX8_faultOf_141 : decode cX8_faultOf 141 = .ok (.ifCond .ne 25, 3) := by decide +kernel
theorem dX8_faultOf_144 : decode cX8_faultOf 144 = .ok (.iload_n 2, 1) := by decide +kernel
theorem dX8_faultOf_145 : decode cX8_faultOf 145 = .ok (.iconst 1, 1) := by decide +kernel
theorem dX8_faultOf_146 : decode cX8_faultOf 146 = .ok (.iadd, 1) := by decide +kernel
theorem dX8_faultOf_147 : decode cX8_faultOf 147 = .ok (.aload_n 0, 1) := by decide +kernel
theorem dX8_faultOf_148 : decode cX8_faultOf 148 = .ok (.getfield 16, 3) := by decide +kernel
theorem dX8_faultOf_151 : decode cX8_faultOf 151 = .ok (.bipush 60, 2) := by decide +kernel
theorem dX8_faultOf_153 : decode cX8_faultOf 153 = .ok (.iaload, 1) := by decide +kernel
theorem dX8_faultOf_154 : decode cX8_faultOf 154 = .ok (.if_icmp .ne 8, 3) := by decide +kernel
theorem dX8_faultOf_157 : decode cX8_faultOf 157 = .ok (.bipush (-6), 2) := by decide +kernel
theorem dX8_faultOf_159 : decode cX8_faultOf 159 = .ok (.goto 6, 3) := by decide +kernel
theorem dX8_faultOf_162 : decode cX8_faultOf 162 = .ok (.iload_n 2, 1) := by decide +kernel
theorem dX8_faultOf_163 : decode cX8_faultOf 163 = .ok (.iconst 1, 1) := by decide +kernel
theorem dX8_faultOf_164 : decode cX8_faultOf 164 = .ok (.iadd, 1) := by decide +kernel
theorem dX8_faultOf_165 : decode cX8_faultOf 165 = .ok (.ireturn, 1) := by decide +kernel
theorem dX8_faultOf_166 : decode cX8_faultOf 166 = .ok (.iinc 2 1, 3) := by decide +kernel
theorem dX8_faultOf_169 : decode cX8_faultOf 169 = .ok (.goto (-165), 3) := by decide +kernel
theorem dX8_faultOf_172 : decode cX8_faultOf 172 = .ok (.aload_n 0, 1) := by decide +kernel
theorem dX8_faultOf_173 : decode cX8_faultOf 173 = .ok (.getfield 16, 3) := by decide +kernel
theorem dX8_faultOf_176 : decode cX8_faultOf 176 = .ok (.bipush 60, 2) := by decide +kernel
theorem dX8_faultOf_178 : decode cX8_faultOf 178 = .ok (.iaload, 1) := by decide +kernel
theorem dX8_faultOf_179 : decode cX8_faultOf 179 = .ok (.ireturn, 1) := by decide +kernel
theorem dX8_fault_0 : decode cX8_fault 0 = .ok (.aload_n 0, 1) := by decide +kernel
theorem dX8_fault_1 : decode cX8_fault 1 = .ok (.invokevirtual 81, 3) := by decide +kernel
theorem dX8_fault_4 : decode cX8_fault 4 = .ok (.ireturn, 1) := by decide +kernel
theorem dX8_measure_0 : decode cX8_measure 0 = .ok (.bipush 40, 2) := by decide +kernel
theorem dX8_measure_2 : decode cX8_measure 2 = .ok (.iload_n 1, 1) := by decide +kernel
theorem dX8_measure_3 : decode cX8_measure 3 = .ok (.imul, 1) := by decide +kernel
theorem dX8_measure_4 : decode cX8_measure 4 = .ok (.aload_n 0, 1) := by decide +kernel
theorem dX8_measure_5 : decode cX8_measure 5 = .ok (.getfield 16, 3) := by decide +kernel
theorem dX8_measure_8 : decode cX8_measure 8 = .ok (.iload_n 1, 1) := by decide +kernel
theorem dX8_measure_9 : decode cX8_measure 9 = .ok (.iaload, 1) := by decide +kernel
theorem dX8_measure_10 : decode cX8_measure 10 = .ok (.iadd, 1) := by decide +kernel
theorem dX8_measure_11 : decode cX8_measure 11 = .ok (.iconst 1, 1) := by decide +kernel
theorem dX8_measure_12 : decode cX8_measure 12 = .ok (.isub, 1) := by decide +kernel
theorem dX8_measure_13 : decode cX8_measure 13 = .ok (.istore_n 2, 1) := by decide +kernel
theorem dX8_measure_14 : decode cX8_measure 14 = .ok (.iload_n 2, 1) := by decide +kernel
theorem dX8_measure_15 : decode cX8_measure 15 = .ok (.bipush 40, 2) := by decide +kernel
theorem dX8_measure_17 : decode cX8_measure 17 = .ok (.iload_n 1, 1) := by decide +kernel
theorem dX8_measure_18 : decode cX8_measure 18 = .ok (.imul, 1) := by decide +kernel
theorem dX8_measure_19 : decode cX8_measure 19 = .ok (.if_icmp .lt 52, 3) := by decide +kernel
theorem dX8_measure_22 : decode cX8_measure 22 = .ok (.iconst 1, 1) := by decide +kernel
theorem dX8_measure_23 : decode cX8_measure 23 = .ok (.istore_n 3, 1) := by decide +kernel
theorem dX8_measure_24 : decode cX8_measure 24 = .ok (.iconst 0, 1) := by decide +kernel
theorem dX8_measure_25 : decode cX8_measure 25 = .ok (.istore 4, 2) := by decide +kernel
theorem dX8_measure_27 : decode cX8_measure 27 = .ok (.iload 4, 2) := by decide +kernel
theorem dX8_measure_29 : decode cX8_measure 29 = .ok (.aload_n 0, 1) := by decide +kernel
theorem dX8_measure_30 : decode cX8_measure 30 = .ok (.getfield 7, 3) := by decide +kernel
theorem dX8_measure_33 : decode cX8_measure 33 = .ok (.iload_n 2, 1) := by decide +kernel
theorem dX8_measure_34 : decode cX8_measure 34 = .ok (.iaload, 1) := by decide +kernel
theorem dX8_measure_35 : decode cX8_measure 35 = .ok (.invokestatic 77, 3) := by decide +kernel
theorem dX8_measure_38 : decode cX8_measure 38 = .ok (.if_icmp .ge 20, 3) := by decide +kernel
theorem dX8_measure_41 : decode cX8_measure 41 = .ok (.iload_n 3, 1) := by decide +kernel
theorem dX8_measure_42 : decode cX8_measure 42 = .ok (.aload_n 0, 1) := by decide +kernel
theorem dX8_measure_43 : decode cX8_measure 43 = .ok (.getfield 13, 3) := by decide +kernel
theorem dX8_measure_46 : decode cX8_measure 46 = .ok (.iload_n 2, 1) := by decide +kernel
theorem dX8_measure_47 : decode cX8_measure 47 = .ok (.iload_n 3, 1) := by decide +kernel
theorem dX8_measure_48 : decode cX8_measure 48 = .ok (.iadd, 1) := by decide +kernel
theorem dX8_measure_49 : decode cX8_measure 49 = .ok (.iaload, 1) := by decide +kernel
theorem dX8_measure_50 : decode cX8_measure 50 = .ok (.iadd, 1) := by decide +kernel
theorem dX8_measure_51 : decode cX8_measure 51 = .ok (.istore_n 3, 1) := by decide +kernel
theorem dX8_measure_52 : decode cX8_measure 52 = .ok (.iinc 4 1, 3) := by decide +kernel
theorem dX8_measure_55 : decode cX8_measure 55 = .ok (.goto (-28), 3) := by decide +kernel
theorem dX8_measure_58 : decode cX8_measure 58 = .ok (.aload_n 0, 1) := by decide +kernel
theorem dX8_measure_59 : decode cX8_measure 59 = .ok (.getfield 13, 3) := by decide +kernel
theorem dX8_measure_62 : decode cX8_measure 62 = .ok (.iload_n 2, 1) := by decide +kernel
theorem dX8_measure_63 : decode cX8_measure 63 = .ok (.iload_n 3, 1) := by decide +kernel
theorem dX8_measure_64 : decode cX8_measure 64 = .ok (.iastore, 1) := by decide +kernel
theorem dX8_measure_65 : decode cX8_measure 65 = .ok (.iinc 2 (-1), 3) := by decide +kernel
theorem dX8_measure_68 : decode cX8_measure 68 = .ok (.goto (-54), 3) := by decide +kernel
theorem dX8_measure_71 : decode cX8_measure 71 = .ok (.return_, 1) := by decide +kernel
theorem dX8_copyText_0 : decode cX8_copyText 0 = .ok (.aload_n 0, 1) := by decide +kernel
theorem dX8_copyText_1 : decode cX8_copyText 1 = .ok (.getfield 16, 3) := by decide +kernel
theorem dX8_copyText_4 : decode cX8_copyText 4 = .ok (.iload_n 2, 1) := by decide +kernel
theorem dX8_copyText_5 : decode cX8_copyText 5 = .ok (.aload_n 0, 1) := by decide +kernel
theorem dX8_copyText_6 : decode cX8_copyText 6 = .ok (.getfield 16, 3) := by decide +kernel
theorem dX8_copyText_9 : decode cX8_copyText 9 = .ok (.iload_n 1, 1) := by decide +kernel
theorem dX8_copyText_10 : decode cX8_copyText 10 = .ok (.iaload, 1) := by decide +kernel
theorem dX8_copyText_11 : decode cX8_copyText 11 = .ok (.iastore, 1) := by decide +kernel
theorem dX8_copyText_12 : decode cX8_copyText 12 = .ok (.iconst 0, 1) := by decide +kernel
theorem dX8_copyText_13 : decode cX8_copyText 13 = .ok (.istore_n 3, 1) := by decide +kernel
theorem dX8_copyText_14 : decode cX8_copyText 14 = .ok (.iload_n 3, 1) := by decide +kernel
theorem dX8_copyText_15 : decode cX8_copyText 15 = .ok (.aload_n 0, 1) := by decide +kernel
theorem dX8_copyText_16 : decode cX8_copyText 16 = .ok (.getfield 16, 3) := by decide +kernel
theorem dX8_copyText_19 : decode cX8_copyText 19 = .ok (.iload_n 1, 1) := by decide +kernel
theorem dX8_copyText_20 : decode cX8_copyText 20 = .ok (.iaload, 1) := by decide +kernel
theorem dX8_copyText_21 : decode cX8_copyText 21 = .ok (.if_icmp .ge 31, 3) := by decide +kernel
theorem dX8_copyText_24 : decode cX8_copyText 24 = .ok (.aload_n 0, 1) := by decide +kernel
theorem dX8_copyText_25 : decode cX8_copyText 25 = .ok (.getfield 7, 3) := by decide +kernel
theorem dX8_copyText_28 : decode cX8_copyText 28 = .ok (.bipush 40, 2) := by decide +kernel
theorem dX8_copyText_30 : decode cX8_copyText 30 = .ok (.iload_n 2, 1) := by decide +kernel
theorem dX8_copyText_31 : decode cX8_copyText 31 = .ok (.imul, 1) := by decide +kernel
theorem dX8_copyText_32 : decode cX8_copyText 32 = .ok (.iload_n 3, 1) := by decide +kernel
theorem dX8_copyText_33 : decode cX8_copyText 33 = .ok (.iadd, 1) := by decide +kernel
theorem dX8_copyText_34 : decode cX8_copyText 34 = .ok (.aload_n 0, 1) := by decide +kernel
theorem dX8_copyText_35 : decode cX8_copyText 35 = .ok (.getfield 7, 3) := by decide +kernel
theorem dX8_copyText_38 : decode cX8_copyText 38 = .ok (.bipush 40, 2) := by decide +kernel
theorem dX8_copyText_40 : decode cX8_copyText 40 = .ok (.iload_n 1, 1) := by decide +kernel
theorem dX8_copyText_41 : decode cX8_copyText 41 = .ok (.imul, 1) := by decide +kernel
theorem dX8_copyText_42 : decode cX8_copyText 42 = .ok (.iload_n 3, 1) := by decide +kernel
theorem dX8_copyText_43 : decode cX8_copyText 43 = .ok (.iadd, 1) := by decide +kernel
theorem dX8_copyText_44 : decode cX8_copyText 44 = .ok (.iaload, 1) := by decide +kernel
theorem dX8_copyText_45 : decode cX8_copyText 45 = .ok (.iastore, 1) := by decide +kernel
theorem dX8_copyText_46 : decode cX8_copyText 46 = .ok (.iinc 3 1, 3) := by decide +kernel
theorem dX8_copyText_49 : decode cX8_copyText 49 = .ok (.goto (-35), 3) := by decide +kernel
theorem dX8_copyText_52 : decode cX8_copyText 52 = .ok (.aload_n 0, 1) := by decide +kernel
theorem dX8_copyText_53 : decode cX8_copyText 53 = .ok (.iload_n 2, 1) := by decide +kernel
theorem dX8_copyText_54 : decode cX8_copyText 54 = .ok (.invokevirtual 85, 3) := by decide +kernel
theorem dX8_copyText_57 : decode cX8_copyText 57 = .ok (.return_, 1) := by decide +kernel
theorem dX8_version_0 : decode cX8_version 0 = .ok (.aload_n 0, 1) := by decide +kernel
theorem dX8_version_1 : decode cX8_version 1 = .ok (.getfield 62, 3) := by decide +kernel
theorem dX8_version_4 : decode cX8_version 4 = .ok (.bipush 6, 2) := by decide +kernel
theorem dX8_version_6 : decode cX8_version 6 = .ok (.if_icmp .ne 6, 3) := by decide +kernel
theorem dX8_version_9 : decode cX8_version 9 = .ok (.bipush (-4), 2) := by decide +kernel
theorem dX8_version_11 : decode cX8_version 11 = .ok (.ireturn, 1) := by decide +kernel
theorem dX8_version_12 : decode cX8_version 12 = .ok (.iconst 0, 1) := by decide +kernel
theorem dX8_version_13 : decode cX8_version 13 = .ok (.istore_n 1, 1) := by decide +kernel
theorem dX8_version_14 : decode cX8_version 14 = .ok (.iload_n 1, 1) := by decide +kernel
theorem dX8_version_15 : decode cX8_version 15 = .ok (.bipush 8, 2) := by decide +kernel
theorem dX8_version_17 : decode cX8_version 17 = .ok (.if_icmp .ge 33, 3) := by decide +kernel
theorem dX8_version_20 : decode cX8_version 20 = .ok (.aload_n 0, 1) := by decide +kernel
theorem dX8_version_21 : decode cX8_version 21 = .ok (.bipush 8, 2) := by decide +kernel
theorem dX8_version_23 : decode cX8_version 23 = .ok (.aload_n 0, 1) := by decide +kernel
theorem dX8_version_24 : decode cX8_version 24 = .ok (.getfield 62, 3) := by decide +kernel
theorem dX8_version_27 : decode cX8_version 27 = .ok (.iconst 1, 1) := by decide +kernel
theorem dX8_version_28 : decode cX8_version 28 = .ok (.isub, 1) := by decide +kernel
theorem dX8_version_29 : decode cX8_version 29 = .ok (.imul, 1) := by decide +kernel
theorem dX8_version_30 : decode cX8_version 30 = .ok (.iload_n 1, 1) := by decide +kernel
theorem dX8_version_31 : decode cX8_version 31 = .ok (.iadd, 1) := by decide +kernel
theorem dX8_version_32 : decode cX8_version 32 = .ok (.bipush 8, 2) := by decide +kernel
theorem dX8_version_34 : decode cX8_version 34 = .ok (.aload_n 0, 1) := by decide +kernel
theorem dX8_version_35 : decode cX8_version 35 = .ok (.getfield 62, 3) := by decide +kernel
theorem dX8_version_38 : decode cX8_version 38 = .ok (.imul, 1) := by decide +kernel
theorem dX8_version_39 : decode cX8_version 39 = .ok (.iload_n 1, 1) := by decide +kernel
theorem dX8_version_40 : decode cX8_version 40 = .ok (.iadd, 1) := by decide +kernel
theorem dX8_version_41 : decode cX8_version 41 = .ok (.invokevirtual 89, 3) := by decide +kernel
theorem dX8_version_44 : decode cX8_version 44 = .ok (.iinc 1 1, 3) := by decide +kernel
theorem dX8_version_47 : decode cX8_version 47 = .ok (.goto (-33), 3) := by decide +kernel
theorem dX8_version_50 : decode cX8_version 50 = .ok (.aload_n 0, 1) := by decide +kernel
theorem dX8_version_51 : decode cX8_version 51 = .ok (.dup, 1) := by decide +kernel
theorem dX8_version_52 : decode cX8_version 52 = .ok (.getfield 62, 3) := by decide +kernel
theorem dX8_version_55 : decode cX8_version 55 = .ok (.iconst 1, 1) := by decide +kernel
theorem dX8_version_56 : decode cX8_version 56 = .ok (.iadd, 1) := by decide +kernel
theorem dX8_version_57 : decode cX8_version 57 = .ok (.putfield 62, 3) := by decide +kernel
theorem dX8_version_60 : decode cX8_version 60 = .ok (.aload_n 0, 1) := by decide +kernel
theorem dX8_version_61 : decode cX8_version 61 = .ok (.iconst 0, 1) := by decide +kernel
theorem dX8_version_62 : decode cX8_version 62 = .ok (.putfield 93, 3) := by decide +kernel
theorem dX8_version_65 : decode cX8_version 65 = .ok (.aload_n 0, 1) := by decide +kernel
theorem dX8_version_66 : decode cX8_version 66 = .ok (.getfield 62, 3) := by decide +kernel
theorem dX8_version_69 : decode cX8_version 69 = .ok (.iconst 1, 1) := by decide +kernel
theorem dX8_version_70 : decode cX8_version 70 = .ok (.isub, 1) := by decide +kernel
theorem dX8_version_71 : decode cX8_version 71 = .ok (.ireturn, 1) := by decide +kernel
theorem dX8_word_0 : decode cX8_word 0 = .ok (.iload_n 1, 1) := by decide +kernel
theorem dX8_word_1 : decode cX8_word 1 = .ok (.invokestatic 97, 3) := by decide +kernel
theorem dX8_word_4 : decode cX8_word 4 = .ok (.ifCond .ne 5, 3) := by decide +kernel
theorem dX8_word_7 : decode cX8_word 7 = .ok (.iconst (-1), 1) := by decide +kernel
theorem dX8_word_8 : decode cX8_word 8 = .ok (.ireturn, 1) := by decide +kernel
theorem dX8_word_9 : decode cX8_word 9 = .ok (.aload_n 0, 1) := by decide +kernel
theorem dX8_word_10 : decode cX8_word 10 = .ok (.getfield 16, 3) := by decide +kernel
theorem dX8_word_13 : decode cX8_word 13 = .ok (.bipush 60, 2) := by decide +kernel
theorem dX8_word_15 : decode cX8_word 15 = .ok (.iaload, 1) := by decide +kernel
theorem dX8_word_16 : decode cX8_word 16 = .ok (.ifCond .le 13, 3) := by decide +kernel
theorem dX8_word_19 : decode cX8_word 19 = .ok (.aload_n 0, 1) := by decide +kernel
theorem dX8_word_20 : decode cX8_word 20 = .ok (.invokevirtual 81, 3) := by decide +kernel
theorem dX8_word_23 : decode cX8_word 23 = .ok (.ifCond .lt 6, 3) := by decide +kernel
theorem dX8_word_26 : decode cX8_word 26 = .ok (.bipush (-5), 2) := by decide +kernel
theorem dX8_word_28 : decode cX8_word 28 = .ok (.ireturn, 1) := by decide +kernel
theorem dX8_word_29 : decode cX8_word 29 = .ok (.aload_n 0, 1) := by decide +kernel
theorem dX8_word_30 : decode cX8_word 30 = .ok (.getfield 16, 3) := by decide +kernel
theorem dX8_word_33 : decode cX8_word 33 = .ok (.bipush 60, 2) := by decide +kernel
theorem dX8_word_35 : decode cX8_word 35 = .ok (.iaload, 1) := by decide +kernel
theorem dX8_word_36 : decode cX8_word 36 = .ok (.istore_n 2, 1) := by decide +kernel
theorem dX8_word_37 : decode cX8_word 37 = .ok (.aload_n 0, 1) := by decide +kernel
theorem dX8_word_38 : decode cX8_word 38 = .ok (.bipush 60, 2) := by decide +kernel
theorem dX8_word_40 : decode cX8_word 40 = .ok (.bipush 8, 2) := by decide +kernel
theorem dX8_word_42 : decode cX8_word 42 = .ok (.aload_n 0, 1) := by decide +kernel
theorem dX8_word_43 : decode cX8_word 43 = .ok (.getfield 62, 3) := by decide +kernel
theorem dX8_word_46 : decode cX8_word 46 = .ok (.iconst 1, 1) := by decide +kernel
theorem dX8_word_47 : decode cX8_word 47 = .ok (.isub, 1) := by decide +kernel
theorem dX8_word_48 : decode cX8_word 48 = .ok (.imul, 1) := by decide +kernel
theorem dX8_word_49 : decode cX8_word 49 = .ok (.iload_n 1, 1) := by decide +kernel
theorem dX8_word_50 : decode cX8_word 50 = .ok (.iadd, 1) := by decide +kernel
theorem dX8_word_51 : decode cX8_word 51 = .ok (.invokevirtual 89, 3) := by decide +kernel
theorem dX8_word_54 : decode cX8_word 54 = .ok (.aload_n 0, 1) := by decide +kernel
theorem dX8_word_55 : decode cX8_word 55 = .ok (.getfield 16, 3) := by decide +kernel
theorem dX8_word_58 : decode cX8_word 58 = .ok (.bipush 60, 2) := by decide +kernel
theorem dX8_word_60 : decode cX8_word 60 = .ok (.iconst 0, 1) := by decide +kernel
theorem dX8_word_61 : decode cX8_word 61 = .ok (.iastore, 1) := by decide +kernel
theorem dX8_word_62 : decode cX8_word 62 = .ok (.aload_n 0, 1) := by decide +kernel
theorem dX8_word_63 : decode cX8_word 63 = .ok (.iconst 0, 1) := by decide +kernel
theorem dX8_word_64 : decode cX8_word 64 = .ok (.putfield 93, 3) := by decide +kernel
theorem dX8_word_67 : decode cX8_word 67 = .ok (.iload_n 2, 1) := by decide +kernel
theorem dX8_word_68 : decode cX8_word 68 = .ok (.ireturn, 1) := by decide +kernel
theorem dX8_written_0 : decode cX8_written 0 = .ok (.aload_n 0, 1) := by decide +kernel
theorem dX8_written_1 : decode cX8_written 1 = .ok (.iload_n 1, 1) := by decide +kernel
theorem dX8_written_2 : decode cX8_written 2 = .ok (.invokevirtual 100, 3) := by decide +kernel
theorem dX8_written_5 : decode cX8_written 5 = .ok (.ifCond .eq 10, 3) := by decide +kernel
theorem dX8_written_8 : decode cX8_written 8 = .ok (.iload_n 2, 1) := by decide +kernel
theorem dX8_written_9 : decode cX8_written 9 = .ok (.invokestatic 97, 3) := by decide +kernel
theorem dX8_written_12 : decode cX8_written 12 = .ok (.ifCond .ne 5, 3) := by decide +kernel
theorem dX8_written_15 : decode cX8_written 15 = .ok (.iconst (-1), 1) := by decide +kernel
theorem dX8_written_16 : decode cX8_written 16 = .ok (.ireturn, 1) := by decide +kernel
theorem dX8_written_17 : decode cX8_written 17 = .ok (.bipush 8, 2) := by decide +kernel
theorem dX8_written_19 : decode cX8_written 19 = .ok (.iload_n 1, 1) := by decide +kernel
theorem dX8_written_20 : decode cX8_written 20 = .ok (.imul, 1) := by decide +kernel
theorem dX8_written_21 : decode cX8_written 21 = .ok (.iload_n 2, 1) := by decide +kernel
theorem dX8_written_22 : decode cX8_written 22 = .ok (.iadd, 1) := by decide +kernel
theorem dX8_written_23 : decode cX8_written 23 = .ok (.istore 4, 2) := by decide +kernel
theorem dX8_written_25 : decode cX8_written 25 = .ok (.iload_n 3, 1) := by decide +kernel
theorem dX8_written_26 : decode cX8_written 26 = .ok (.iconst (-1), 1) := by decide +kernel
theorem dX8_written_27 : decode cX8_written 27 = .ok (.if_icmp .ne 13, 3) := by decide +kernel
theorem dX8_written_30 : decode cX8_written 30 = .ok (.aload_n 0, 1) := by decide +kernel
theorem dX8_written_31 : decode cX8_written 31 = .ok (.getfield 16, 3) := by decide +kernel
theorem dX8_written_34 : decode cX8_written 34 = .ok (.iload 4, 2) := by decide +kernel
theorem dX8_written_36 : decode cX8_written 36 = .ok (.iaload, 1) := by decide +kernel
theorem dX8_written_37 : decode cX8_written 37 = .ok (.goto 37, 3) := by decide +kernel
theorem dX8_written_40 : decode cX8_written 40 = .ok (.iload_n 3, 1) := by decide +kernel
theorem dX8_written_41 : decode cX8_written 41 = .ok (.iconst 0, 1) := by decide +kernel
theorem dX8_written_42 : decode cX8_written 42 = .ok (.aload_n 0, 1) := by decide +kernel
theorem dX8_written_43 : decode cX8_written 43 = .ok (.getfield 16, 3) := by decide +kernel
theorem dX8_written_46 : decode cX8_written 46 = .ok (.iload 4, 2) := by decide +kernel
theorem dX8_written_48 : decode cX8_written 48 = .ok (.iaload, 1) := by decide +kernel
theorem dX8_written_49 : decode cX8_written 49 = .ok (.iconst 1, 1) := by decide +kernel
theorem dX8_written_50 : decode cX8_written 50 = .ok (.isub, 1) := by decide +kernel
theorem dX8_written_51 : decode cX8_written 51 = .ok (.invokestatic 66, 3) := by decide +kernel
theorem dX8_written_54 : decode cX8_written 54 = .ok (.ifCond .eq 18, 3) := by decide +kernel
theorem dX8_written_57 : decode cX8_written 57 = .ok (.aload_n 0, 1) := by decide +kernel
theorem dX8_written_58 : decode cX8_written 58 = .ok (.getfield 7, 3) := by decide +kernel
theorem dX8_written_61 : decode cX8_written 61 = .ok (.bipush 40, 2) := by decide +kernel
theorem dX8_written_63 : decode cX8_written 63 = .ok (.iload 4, 2) := by decide +kernel
theorem dX8_written_65 : decode cX8_written 65 = .ok (.imul, 1) := by decide +kernel
theorem dX8_written_66 : decode cX8_written 66 = .ok (.iload_n 3, 1) := by decide +kernel
theorem dX8_written_67 : decode cX8_written 67 = .ok (.iadd, 1) := by decide +kernel
theorem dX8_written_68 : decode cX8_written 68 = .ok (.iaload, 1) := by decide +kernel
theorem dX8_written_69 : decode cX8_written 69 = .ok (.goto 5, 3) := by decide +kernel
theorem dX8_written_72 : decode cX8_written 72 = .ok (.bipush (-6), 2) := by decide +kernel
theorem dX8_written_74 : decode cX8_written 74 = .ok (.ireturn, 1) := by decide +kernel
theorem dX8_byVersion_0 : decode cX8_byVersion 0 = .ok (.iconst 0, 1) := by decide +kernel
theorem dX8_byVersion_1 : decode cX8_byVersion 1 = .ok (.istore_n 2, 1) := by decide +kernel
theorem dX8_byVersion_2 : decode cX8_byVersion 2 = .ok (.iload_n 2, 1) := by decide +kernel
theorem dX8_byVersion_3 : decode cX8_byVersion 3 = .ok (.bipush 8, 2) := by decide +kernel
theorem dX8_byVersion_5 : decode cX8_byVersion 5 = .ok (.if_icmp .ge 16, 3) := by decide +kernel
theorem dX8_byVersion_8 : decode cX8_byVersion 8 = .ok (.aload_n 0, 1) := by decide +kernel
theorem dX8_byVersion_9 : decode cX8_byVersion 9 = .ok (.getfield 37, 3) := by decide +kernel
theorem dX8_byVersion_12 : decode cX8_byVersion 12 = .ok (.iload_n 2, 1) := by decide +kernel
theorem dX8_byVersion_13 : decode cX8_byVersion 13 = .ok (.iload_n 1, 1) := by decide +kernel
theorem dX8_byVersion_14 : decode cX8_byVersion 14 = .ok (.iastore, 1) := by decide +kernel
theorem dX8_byVersion_15 : decode cX8_byVersion 15 = .ok (.iinc 2 1, 3) := by decide +kernel
theorem dX8_byVersion_18 : decode cX8_byVersion 18 = .ok (.goto (-16), 3) := by decide +kernel
theorem dX8_byVersion_21 : decode cX8_byVersion 21 = .ok (.return_, 1) := by decide +kernel
theorem dX8_act_0 : decode cX8_act 0 = .ok (.iload_n 0, 1) := by decide +kernel
theorem dX8_act_1 : decode cX8_act 1 = .ok (.tableswitch 59 42 45 #[51, 31, 59, 39], 31) := by decide +kernel
theorem dX8_act_32 : decode cX8_act 32 = .ok (.iload_n 1, 1) := by decide +kernel
theorem dX8_act_33 : decode cX8_act 33 = .ok (.iload_n 2, 1) := by decide +kernel
theorem dX8_act_34 : decode cX8_act 34 = .ok (.iadd, 1) := by decide +kernel
theorem dX8_act_35 : decode cX8_act 35 = .ok (.sipush 1000, 3) := by decide +kernel
theorem dX8_act_38 : decode cX8_act 38 = .ok (.irem, 1) := by decide +kernel
theorem dX8_act_39 : decode cX8_act 39 = .ok (.ireturn, 1) := by decide +kernel
theorem dX8_act_40 : decode cX8_act 40 = .ok (.iload_n 1, 1) := by decide +kernel
theorem dX8_act_41 : decode cX8_act 41 = .ok (.sipush 1000, 3) := by decide +kernel
theorem dX8_act_44 : decode cX8_act 44 = .ok (.iadd, 1) := by decide +kernel
theorem dX8_act_45 : decode cX8_act 45 = .ok (.iload_n 2, 1) := by decide +kernel
theorem dX8_act_46 : decode cX8_act 46 = .ok (.isub, 1) := by decide +kernel
theorem dX8_act_47 : decode cX8_act 47 = .ok (.sipush 1000, 3) := by decide +kernel
theorem dX8_act_50 : decode cX8_act 50 = .ok (.irem, 1) := by decide +kernel
theorem dX8_act_51 : decode cX8_act 51 = .ok (.ireturn, 1) := by decide +kernel
theorem dX8_act_52 : decode cX8_act 52 = .ok (.iload_n 1, 1) := by decide +kernel
theorem dX8_act_53 : decode cX8_act 53 = .ok (.iload_n 2, 1) := by decide +kernel
theorem dX8_act_54 : decode cX8_act 54 = .ok (.imul, 1) := by decide +kernel
theorem dX8_act_55 : decode cX8_act 55 = .ok (.sipush 1000, 3) := by decide +kernel
theorem dX8_act_58 : decode cX8_act 58 = .ok (.irem, 1) := by decide +kernel
theorem dX8_act_59 : decode cX8_act 59 = .ok (.ireturn, 1) := by decide +kernel
theorem dX8_act_60 : decode cX8_act 60 = .ok (.iload_n 1, 1) := by decide +kernel
theorem dX8_act_61 : decode cX8_act 61 = .ok (.iload_n 2, 1) := by decide +kernel
theorem dX8_act_62 : decode cX8_act 62 = .ok (.if_icmp .ge 7, 3) := by decide +kernel
theorem dX8_act_65 : decode cX8_act 65 = .ok (.iload_n 1, 1) := by decide +kernel
theorem dX8_act_66 : decode cX8_act 66 = .ok (.goto 4, 3) := by decide +kernel
theorem dX8_act_69 : decode cX8_act 69 = .ok (.iload_n 2, 1) := by decide +kernel
theorem dX8_act_70 : decode cX8_act 70 = .ok (.ireturn, 1) := by decide +kernel
theorem dX8_comeTo_0 : decode cX8_comeTo 0 = .ok (.aload_n 0, 1) := by decide +kernel
theorem dX8_comeTo_1 : decode cX8_comeTo 1 = .ok (.iconst 0, 1) := by decide +kernel
theorem dX8_comeTo_2 : decode cX8_comeTo 2 = .ok (.putfield 103, 3) := by decide +kernel
theorem dX8_comeTo_5 : decode cX8_comeTo 5 = .ok (.aload_n 0, 1) := by decide +kernel
theorem dX8_comeTo_6 : decode cX8_comeTo 6 = .ok (.iconst 0, 1) := by decide +kernel
theorem dX8_comeTo_7 : decode cX8_comeTo 7 = .ok (.putfield 106, 3) := by decide +kernel
theorem dX8_comeTo_10 : decode cX8_comeTo 10 = .ok (.aload_n 0, 1) := by decide +kernel
theorem dX8_comeTo_11 : decode cX8_comeTo 11 = .ok (.iconst 0, 1) := by decide +kernel
theorem dX8_comeTo_12 : decode cX8_comeTo 12 = .ok (.putfield 109, 3) := by decide +kernel
theorem dX8_comeTo_15 : decode cX8_comeTo 15 = .ok (.aload_n 0, 1) := by decide +kernel
theorem dX8_comeTo_16 : decode cX8_comeTo 16 = .ok (.iconst 0, 1) := by decide +kernel
theorem dX8_comeTo_17 : decode cX8_comeTo 17 = .ok (.putfield 112, 3) := by decide +kernel
theorem dX8_comeTo_20 : decode cX8_comeTo 20 = .ok (.iload_n 2, 1) := by decide +kernel
theorem dX8_comeTo_21 : decode cX8_comeTo 21 = .ok (.istore_n 3, 1) := by decide +kernel
theorem dX8_comeTo_22 : decode cX8_comeTo 22 = .ok (.bipush 40, 2) := by decide +kernel
theorem dX8_comeTo_24 : decode cX8_comeTo 24 = .ok (.iload_n 1, 1) := by decide +kernel
theorem dX8_comeTo_25 : decode cX8_comeTo 25 = .ok (.imul, 1) := by decide +kernel
theorem dX8_comeTo_26 : decode cX8_comeTo 26 = .ok (.istore 4, 2) := by decide +kernel
theorem dX8_comeTo_28 : decode cX8_comeTo 28 = .ok (.iconst 0, 1) := by decide +kernel
theorem dX8_comeTo_29 : decode cX8_comeTo 29 = .ok (.istore 5, 2) := by decide +kernel
theorem dX8_comeTo_31 : decode cX8_comeTo 31 = .ok (.iload 4, 2) := by decide +kernel
theorem dX8_comeTo_33 : decode cX8_comeTo 33 = .ok (.ifCond .ge 10, 3) := by decide +kernel
theorem dX8_comeTo_36 : decode cX8_comeTo 36 = .ok (.aload_n 0, 1) := by decide +kernel
theorem dX8_comeTo_37 : decode cX8_comeTo 37 = .ok (.getfield 103, 3) := by decide +kernel
theorem dX8_comeTo_40 : decode cX8_comeTo 40 = .ok (.ifCond .le 426, 3) := by decide +kernel
theorem dX8_comeTo_43 : decode cX8_comeTo 43 = .ok (.iload 4, 2) := by decide +kernel
theorem dX8_comeTo_45 : decode cX8_comeTo 45 = .ok (.ifCond .lt 82, 3) := by decide +kernel
theorem dX8_comeTo_48 : decode cX8_comeTo 48 = .ok (.aload_n 0, 1) := by decide +kernel
theorem dX8_comeTo_49 : decode cX8_comeTo 49 = .ok (.getfield 7, 3) := by decide +kernel
theorem dX8_comeTo_52 : decode cX8_comeTo 52 = .ok (.iload 4, 2) := by decide +kernel
theorem dX8_comeTo_54 : decode cX8_comeTo 54 = .ok (.iaload, 1) := by decide +kernel
theorem dX8_comeTo_55 : decode cX8_comeTo 55 = .ok (.istore 6, 2) := by decide +kernel
theorem dX8_comeTo_57 : decode cX8_comeTo 57 = .ok (.iload 6, 2) := by decide +kernel
theorem dX8_comeTo_59 : decode cX8_comeTo 59 = .ok (.invokestatic 77, 3) := by decide +kernel
theorem dX8_comeTo_62 : decode cX8_comeTo 62 = .ok (.ifCond .le 40, 3) := by decide +kernel
theorem dX8_comeTo_65 : decode cX8_comeTo 65 = .ok (.aload_n 0, 1) := by decide +kernel
theorem dX8_comeTo_66 : decode cX8_comeTo 66 = .ok (.getfield 28, 3) := by decide +kernel
theorem dX8_comeTo_69 : decode cX8_comeTo 69 = .ok (.aload_n 0, 1) := by decide +kernel
theorem dX8_comeTo_70 : decode cX8_comeTo 70 = .ok (.getfield 103, 3) := by decide +kernel
theorem dX8_comeTo_73 : decode cX8_comeTo 73 = .ok (.iload 4, 2) := by decide +kernel
theorem dX8_comeTo_75 : decode cX8_comeTo 75 = .ok (.iastore, 1) := by decide +kernel
theorem dX8_comeTo_76 : decode cX8_comeTo 76 = .ok (.aload_n 0, 1) := by decide +kernel
theorem dX8_comeTo_77 : decode cX8_comeTo 77 = .ok (.getfield 31, 3) := by decide +kernel
theorem dX8_comeTo_80 : decode cX8_comeTo 80 = .ok (.aload_n 0, 1) := by decide +kernel
theorem dX8_comeTo_81 : decode cX8_comeTo 81 = .ok (.getfield 103, 3) := by decide +kernel
theorem dX8_comeTo_84 : decode cX8_comeTo 84 = .ok (.iconst 0, 1) := by decide +kernel
theorem dX8_comeTo_85 : decode cX8_comeTo 85 = .ok (.iastore, 1) := by decide +kernel
theorem dX8_comeTo_86 : decode cX8_comeTo 86 = .ok (.aload_n 0, 1) := by decide +kernel
theorem dX8_comeTo_87 : decode cX8_comeTo 87 = .ok (.dup, 1) := by decide +kernel
theorem dX8_comeTo_88 : decode cX8_comeTo 88 = .ok (.getfield 103, 3) := by decide +kernel
theorem dX8_comeTo_91 : decode cX8_comeTo 91 = .ok (.iconst 1, 1) := by decide +kernel
theorem dX8_comeTo_92 : decode cX8_comeTo 92 = .ok (.iadd, 1) := by decide +kernel
theorem dX8_comeTo_93 : decode cX8_comeTo 93 = .ok (.putfield 103, 3) := by decide +kernel
theorem dX8_comeTo_96 : decode cX8_comeTo 96 = .ok (.iinc 4 1, 3) := by decide +kernel
theorem dX8_comeTo_99 : decode cX8_comeTo 99 = .ok (.goto 25, 3) := by decide +kernel
theorem dX8_comeTo_102 : decode cX8_comeTo 102 = .ok (.iload 6, 2) := by decide +kernel
theorem dX8_comeTo_104 : decode cX8_comeTo 104 = .ok (.bipush 120, 2) := by decide +kernel
theorem dX8_comeTo_106 : decode cX8_comeTo 106 = .ok (.if_icmp .ne 7, 3) := by decide +kernel
theorem dX8_comeTo_109 : decode cX8_comeTo 109 = .ok (.iload_n 3, 1) := by decide +kernel
theorem dX8_comeTo_110 : decode cX8_comeTo 110 = .ok (.goto 8, 3) := by decide +kernel
theorem dX8_comeTo_113 : decode cX8_comeTo 113 = .ok (.iload 6, 2) := by decide +kernel
theorem dX8_comeTo_115 : decode cX8_comeTo 115 = .ok (.bipush 48, 2) := by decide +kernel
theorem dX8_comeTo_117 : decode cX8_comeTo 117 = .ok (.isub, 1) := by decide +kernel
theorem dX8_comeTo_118 : decode cX8_comeTo 118 = .ok (.istore 5, 2) := by decide +kernel
theorem dX8_comeTo_120 : decode cX8_comeTo 120 = .ok (.bipush (-6), 2) := by decide +kernel
theorem dX8_comeTo_122 : decode cX8_comeTo 122 = .ok (.istore 4, 2) := by decide +kernel
theorem dX8_comeTo_124 : decode cX8_comeTo 124 = .ok (.goto (-93), 3) := by decide +kernel
theorem dX8_comeTo_127 : decode cX8_comeTo 127 = .ok (.aload_n 0, 1) := by decide +kernel
theorem dX8_comeTo_128 : decode cX8_comeTo 128 = .ok (.getfield 103, 3) := by decide +kernel
theorem dX8_comeTo_131 : decode cX8_comeTo 131 = .ok (.iconst 1, 1) := by decide +kernel
theorem dX8_comeTo_132 : decode cX8_comeTo 132 = .ok (.isub, 1) := by decide +kernel
theorem dX8_comeTo_133 : decode cX8_comeTo 133 = .ok (.istore 6, 2) := by decide +kernel
theorem dX8_comeTo_135 : decode cX8_comeTo 135 = .ok (.aload_n 0, 1) := by decide +kernel
theorem dX8_comeTo_136 : decode cX8_comeTo 136 = .ok (.getfield 28, 3) := by decide +kernel
theorem dX8_comeTo_139 : decode cX8_comeTo 139 = .ok (.iload 6, 2) := by decide +kernel
theorem dX8_comeTo_141 : decode cX8_comeTo 141 = .ok (.iaload, 1) := by decide +kernel
theorem dX8_comeTo_142 : decode cX8_comeTo 142 = .ok (.istore 7, 2) := by decide +kernel
theorem dX8_comeTo_144 : decode cX8_comeTo 144 = .ok (.aload_n 0, 1) := by decide +kernel
theorem dX8_comeTo_145 : decode cX8_comeTo 145 = .ok (.getfield 7, 3) := by decide +kernel
theorem dX8_comeTo_148 : decode cX8_comeTo 148 = .ok (.iload 7, 2) := by decide +kernel
theorem dX8_comeTo_150 : decode cX8_comeTo 150 = .ok (.iaload, 1) := by decide +kernel
theorem dX8_comeTo_151 : decode cX8_comeTo 151 = .ok (.istore 8, 2) := by decide +kernel
theorem dX8_comeTo_153 : decode cX8_comeTo 153 = .ok (.iload 7, 2) := by decide +kernel
theorem dX8_comeTo_155 : decode cX8_comeTo 155 = .ok (.iconst 1, 1) := by decide +kernel
theorem dX8_comeTo_156 : decode cX8_comeTo 156 = .ok (.iadd, 1) := by decide +kernel
theorem dX8_comeTo_157 : decode cX8_comeTo 157 = .ok (.aload_n 0, 1) := by decide +kernel
theorem dX8_comeTo_158 : decode cX8_comeTo 158 = .ok (.getfield 13, 3) := by decide +kernel
theorem dX8_comeTo_161 : decode cX8_comeTo 161 = .ok (.iload 7, 2) := by decide +kernel
theorem dX8_comeTo_163 : decode cX8_comeTo 163 = .ok (.iconst 1, 1) := by decide +kernel
theorem dX8_comeTo_164 : decode cX8_comeTo 164 = .ok (.iadd, 1) := by decide +kernel
theorem dX8_comeTo_165 : decode cX8_comeTo 165 = .ok (.iaload, 1) := by decide +kernel
theorem dX8_comeTo_166 : decode cX8_comeTo 166 = .ok (.iadd, 1) := by decide +kernel
theorem dX8_comeTo_167 : decode cX8_comeTo 167 = .ok (.istore 9, 2) := by decide +kernel
theorem dX8_comeTo_169 : decode cX8_comeTo 169 = .ok (.aload_n 0, 1) := by decide +kernel
theorem dX8_comeTo_170 : decode cX8_comeTo 170 = .ok (.getfield 31, 3) := by decide +kernel
theorem dX8_comeTo_173 : decode cX8_comeTo 173 = .ok (.iload 6, 2) := by decide +kernel
theorem dX8_comeTo_175 : decode cX8_comeTo 175 = .ok (.iaload, 1) := by decide +kernel
theorem dX8_comeTo_176 : decode cX8_comeTo 176 = .ok (.ifCond .ne 7, 3) := by decide +kernel
theorem dX8_comeTo_179 : decode cX8_comeTo 179 = .ok (.iconst 1, 1) := by decide +kernel
theorem dX8_comeTo_180 : decode cX8_comeTo 180 = .ok (.goto 4, 3) := by decide +kernel
theorem dX8_comeTo_183 : decode cX8_comeTo 183 = .ok (.iconst 0, 1) := by decide +kernel
theorem dX8_comeTo_184 : decode cX8_comeTo 184 = .ok (.istore 10, 2) := by decide +kernel
theorem dX8_comeTo_186 : decode cX8_comeTo 186 = .ok (.aload_n 0, 1) := by decide +kernel
theorem dX8_comeTo_187 : decode cX8_comeTo 187 = .ok (.getfield 31, 3) := by decide +kernel
theorem dX8_comeTo_190 : decode cX8_comeTo 190 = .ok (.iload 6, 2) := by decide +kernel
theorem dX8_comeTo_192 : decode cX8_comeTo 192 = .ok (.iconst 1, 1) := by decide +kernel
theorem dX8_comeTo_193 : decode cX8_comeTo 193 = .ok (.iastore, 1) := by decide +kernel
theorem dX8_comeTo_194 : decode cX8_comeTo 194 = .ok (.iload 8, 2) := by decide +kernel
theorem dX8_comeTo_196 : decode cX8_comeTo 196 = .ok (.bipush 97, 2) := by decide +kernel
theorem dX8_comeTo_198 : decode cX8_comeTo 198 = .ok (.bipush 104, 2) := by decide +kernel
theorem dX8_comeTo_200 : decode cX8_comeTo 200 = .ok (.invokestatic 66, 3) := by decide +kernel
theorem dX8_comeTo_203 : decode cX8_comeTo 203 = .ok (.ifCond .eq 163, 3) := by decide +kernel
theorem dX8_comeTo_206 : decode cX8_comeTo 206 = .ok (.iload 10, 2) := by decide +kernel
theorem dX8_comeTo_208 : decode cX8_comeTo 208 = .ok (.ifCond .eq 127, 3) := by decide +kernel
theorem dX8_comeTo_211 : decode cX8_comeTo 211 = .ok (.iload 8, 2) := by decide +kernel
theorem dX8_comeTo_213 : decode cX8_comeTo 213 = .ok (.bipush 97, 2) := by decide +kernel
theorem dX8_comeTo_215 : decode cX8_comeTo 215 = .ok (.isub, 1) := by decide +kernel
theorem dX8_comeTo_216 : decode cX8_comeTo 216 = .ok (.istore 11, 2) := by decide +kernel
theorem dX8_comeTo_218 : decode cX8_comeTo 218 = .ok (.bipush 8, 2) := by decide +kernel
theorem dX8_comeTo_220 : decode cX8_comeTo 220 = .ok (.aload_n 0, 1) := by decide +kernel
theorem dX8_comeTo_221 : decode cX8_comeTo 221 = .ok (.getfield 37, 3) := by decide +kernel
theorem dX8_comeTo_224 : decode cX8_comeTo 224 = .ok (.iload 11, 2) := by decide +kernel
theorem dX8_comeTo_226 : decode cX8_comeTo 226 = .ok (.iaload, 1) := by decide +kernel
theorem dX8_comeTo_227 : decode cX8_comeTo 227 = .ok (.imul, 1) := by decide +kernel
theorem dX8_comeTo_228 : decode cX8_comeTo 228 = .ok (.iload 11, 2) := by decide +kernel
theorem dX8_comeTo_230 : decode cX8_comeTo 230 = .ok (.iadd, 1) := by decide +kernel
theorem dX8_comeTo_231 : decode cX8_comeTo 231 = .ok (.istore 12, 2) := by decide +kernel
theorem dX8_comeTo_233 : decode cX8_comeTo 233 = .ok (.aload_n 0, 1) := by decide +kernel
theorem dX8_comeTo_234 : decode cX8_comeTo 234 = .ok (.getfield 16, 3) := by decide +kernel
theorem dX8_comeTo_237 : decode cX8_comeTo 237 = .ok (.iload 12, 2) := by decide +kernel
theorem dX8_comeTo_239 : decode cX8_comeTo 239 = .ok (.iaload, 1) := by decide +kernel
theorem dX8_comeTo_240 : decode cX8_comeTo 240 = .ok (.ifCond .ne 19, 3) := by decide +kernel
theorem dX8_comeTo_243 : decode cX8_comeTo 243 = .ok (.aload_n 0, 1) := by decide +kernel
theorem dX8_comeTo_244 : decode cX8_comeTo 244 = .ok (.dup, 1) := by decide +kernel
theorem dX8_comeTo_245 : decode cX8_comeTo 245 = .ok (.getfield 106, 3) := by decide +kernel
theorem dX8_comeTo_248 : decode cX8_comeTo 248 = .ok (.iconst 1, 1) := by decide +kernel
theorem dX8_comeTo_249 : decode cX8_comeTo 249 = .ok (.iload 11, 2) := by decide +kernel
theorem dX8_comeTo_251 : decode cX8_comeTo 251 = .ok (.ishl, 1) := by decide +kernel
theorem dX8_comeTo_252 : decode cX8_comeTo 252 = .ok (.ior, 1) := by decide +kernel
theorem dX8_comeTo_253 : decode cX8_comeTo 253 = .ok (.putfield 106, 3) := by decide +kernel
theorem dX8_comeTo_256 : decode cX8_comeTo 256 = .ok (.bipush (-10), 2) := by decide +kernel
theorem dX8_comeTo_258 : decode cX8_comeTo 258 = .ok (.ireturn, 1) := by decide +kernel
theorem dX8_comeTo_259 : decode cX8_comeTo 259 = .ok (.aload_n 0, 1) := by decide +kernel
theorem dX8_comeTo_260 : decode cX8_comeTo 260 = .ok (.getfield 109, 3) := by decide +kernel
theorem dX8_comeTo_263 : decode cX8_comeTo 263 = .ok (.sipush 300, 3) := by decide +kernel
theorem dX8_comeTo_266 : decode cX8_comeTo 266 = .ok (.if_icmp .eq 12, 3) := by decide +kernel
theorem dX8_comeTo_269 : decode cX8_comeTo 269 = .ok (.aload_n 0, 1) := by decide +kernel
theorem dX8_comeTo_270 : decode cX8_comeTo 270 = .ok (.getfield 112, 3) := by decide +kernel
theorem dX8_comeTo_273 : decode cX8_comeTo 273 = .ok (.bipush 20, 2) := by decide +kernel
theorem dX8_comeTo_275 : decode cX8_comeTo 275 = .ok (.if_icmp .ne 6, 3) := by decide +kernel
theorem dX8_comeTo_278 : decode cX8_comeTo 278 = .ok (.bipush (-11), 2) := by decide +kernel
theorem dX8_comeTo_280 : decode cX8_comeTo 280 = .ok (.ireturn, 1) := by decide +kernel
theorem dX8_comeTo_281 : decode cX8_comeTo 281 = .ok (.aload_n 0, 1) := by decide +kernel
theorem dX8_comeTo_282 : decode cX8_comeTo 282 = .ok (.dup, 1) := by decide +kernel
theorem dX8_comeTo_283 : decode cX8_comeTo 283 = .ok (.getfield 106, 3) := by decide +kernel
theorem dX8_comeTo_286 : decode cX8_comeTo 286 = .ok (.iconst 1, 1) := by decide +kernel
theorem dX8_comeTo_287 : decode cX8_comeTo 287 = .ok (.iload 11, 2) := by decide +kernel
theorem dX8_comeTo_289 : decode cX8_comeTo 289 = .ok (.ishl, 1) := by decide +kernel
theorem dX8_comeTo_290 : decode cX8_comeTo 290 = .ok (.ior, 1) := by decide +kernel
theorem dX8_comeTo_291 : decode cX8_comeTo 291 = .ok (.putfield 106, 3) := by decide +kernel
theorem dX8_comeTo_294 : decode cX8_comeTo 294 = .ok (.aload_n 0, 1) := by decide +kernel
theorem dX8_comeTo_295 : decode cX8_comeTo 295 = .ok (.dup, 1) := by decide +kernel
theorem dX8_comeTo_296 : decode cX8_comeTo 296 = .ok (.getfield 109, 3) := by decide +kernel
theorem dX8_comeTo_299 : decode cX8_comeTo 299 = .ok (.iconst 1, 1) := by decide +kernel
theorem dX8_comeTo_300 : decode cX8_comeTo 300 = .ok (.iadd, 1) := by decide +kernel
theorem dX8_comeTo_301 : decode cX8_comeTo 301 = .ok (.putfield 109, 3) := by decide +kernel
theorem dX8_comeTo_304 : decode cX8_comeTo 304 = .ok (.aload_n 0, 1) := by decide +kernel
theorem dX8_comeTo_305 : decode cX8_comeTo 305 = .ok (.dup, 1) := by decide +kernel
theorem dX8_comeTo_306 : decode cX8_comeTo 306 = .ok (.getfield 112, 3) := by decide +kernel
theorem dX8_comeTo_309 : decode cX8_comeTo 309 = .ok (.iconst 1, 1) := by decide +kernel
theorem dX8_comeTo_310 : decode cX8_comeTo 310 = .ok (.iadd, 1) := by decide +kernel
theorem dX8_comeTo_311 : decode cX8_comeTo 311 = .ok (.putfield 112, 3) := by decide +kernel
theorem dX8_comeTo_314 : decode cX8_comeTo 314 = .ok (.aload_n 0, 1) := by decide +kernel
theorem dX8_comeTo_315 : decode cX8_comeTo 315 = .ok (.getfield 34, 3) := by decide +kernel
theorem dX8_comeTo_318 : decode cX8_comeTo 318 = .ok (.iload 6, 2) := by decide +kernel
theorem dX8_comeTo_320 : decode cX8_comeTo 320 = .ok (.iload_n 3, 1) := by decide +kernel
theorem dX8_comeTo_321 : decode cX8_comeTo 321 = .ok (.iastore, 1) := by decide +kernel
theorem dX8_comeTo_322 : decode cX8_comeTo 322 = .ok (.iload 5, 2) := by decide +kernel
theorem dX8_comeTo_324 : decode cX8_comeTo 324 = .ok (.istore_n 3, 1) := by decide +kernel
theorem dX8_comeTo_325 : decode cX8_comeTo 325 = .ok (.bipush 40, 2) := by decide +kernel
theorem dX8_comeTo_327 : decode cX8_comeTo 327 = .ok (.iload 12, 2) := by decide +kernel
theorem dX8_comeTo_329 : decode cX8_comeTo 329 = .ok (.imul, 1) := by decide +kernel
theorem dX8_comeTo_330 : decode cX8_comeTo 330 = .ok (.istore 4, 2) := by decide +kernel
theorem dX8_comeTo_332 : decode cX8_comeTo 332 = .ok (.goto 131, 3) := by decide +kernel
theorem dX8_comeTo_335 : decode cX8_comeTo 335 = .ok (.aload_n 0, 1) := by decide +kernel
theorem dX8_comeTo_336 : decode cX8_comeTo 336 = .ok (.dup, 1) := by decide +kernel
theorem dX8_comeTo_337 : decode cX8_comeTo 337 = .ok (.getfield 112, 3) := by decide +kernel
theorem dX8_comeTo_340 : decode cX8_comeTo 340 = .ok (.iconst 1, 1) := by decide +kernel
theorem dX8_comeTo_341 : decode cX8_comeTo 341 = .ok (.isub, 1) := by decide +kernel
theorem dX8_comeTo_342 : decode cX8_comeTo 342 = .ok (.putfield 112, 3) := by decide +kernel
theorem dX8_comeTo_345 : decode cX8_comeTo 345 = .ok (.aload_n 0, 1) := by decide +kernel
theorem dX8_comeTo_346 : decode cX8_comeTo 346 = .ok (.getfield 34, 3) := by decide +kernel
theorem dX8_comeTo_349 : decode cX8_comeTo 349 = .ok (.iload 6, 2) := by decide +kernel
theorem dX8_comeTo_351 : decode cX8_comeTo 351 = .ok (.iaload, 1) := by decide +kernel
theorem dX8_comeTo_352 : decode cX8_comeTo 352 = .ok (.istore_n 3, 1) := by decide +kernel
theorem dX8_comeTo_353 : decode cX8_comeTo 353 = .ok (.aload_n 0, 1) := by decide +kernel
theorem dX8_comeTo_354 : decode cX8_comeTo 354 = .ok (.dup, 1) := by decide +kernel
theorem dX8_comeTo_355 : decode cX8_comeTo 355 = .ok (.getfield 103, 3) := by decide +kernel
theorem dX8_comeTo_358 : decode cX8_comeTo 358 = .ok (.iconst 1, 1) := by decide +kernel
theorem dX8_comeTo_359 : decode cX8_comeTo 359 = .ok (.isub, 1) := by decide +kernel
theorem dX8_comeTo_360 : decode cX8_comeTo 360 = .ok (.putfield 103, 3) := by decide +kernel
theorem dX8_comeTo_363 : decode cX8_comeTo 363 = .ok (.goto 100, 3) := by decide +kernel
theorem dX8_comeTo_366 : decode cX8_comeTo 366 = .ok (.iload 8, 2) := by decide +kernel
theorem dX8_comeTo_368 : decode cX8_comeTo 368 = .ok (.bipush 63, 2) := by decide +kernel
theorem dX8_comeTo_370 : decode cX8_comeTo 370 = .ok (.if_icmp .ne 46, 3) := by decide +kernel
theorem dX8_comeTo_373 : decode cX8_comeTo 373 = .ok (.iload 10, 2) := by decide +kernel
theorem dX8_comeTo_375 : decode cX8_comeTo 375 = .ok (.ifCond .eq 28, 3) := by decide +kernel
theorem dX8_comeTo_378 : decode cX8_comeTo 378 = .ok (.iload 5, 2) := by decide +kernel
theorem dX8_comeTo_380 : decode cX8_comeTo 380 = .ok (.ifCond .ne 8, 3) := by decide +kernel
theorem dX8_comeTo_383 : decode cX8_comeTo 383 = .ok (.iload 9, 2) := by decide +kernel
theorem dX8_comeTo_385 : decode cX8_comeTo 385 = .ok (.goto 13, 3) := by decide +kernel
theorem dX8_comeTo_388 : decode cX8_comeTo 388 = .ok (.iload 9, 2) := by decide +kernel
theorem dX8_comeTo_390 : decode cX8_comeTo 390 = .ok (.aload_n 0, 1) := by decide +kernel
theorem dX8_comeTo_391 : decode cX8_comeTo 391 = .ok (.getfield 13, 3) := by decide +kernel
theorem dX8_comeTo_394 : decode cX8_comeTo 394 = .ok (.iload 9, 2) := by decide +kernel
theorem dX8_comeTo_396 : decode cX8_comeTo 396 = .ok (.iaload, 1) := by decide +kernel
theorem dX8_comeTo_397 : decode cX8_comeTo 397 = .ok (.iadd, 1) := by decide +kernel
theorem dX8_comeTo_398 : decode cX8_comeTo 398 = .ok (.istore 4, 2) := by decide +kernel
theorem dX8_comeTo_400 : decode cX8_comeTo 400 = .ok (.goto 63, 3) := by decide +kernel
theorem dX8_comeTo_403 : decode cX8_comeTo 403 = .ok (.aload_n 0, 1) := by decide +kernel
theorem dX8_comeTo_404 : decode cX8_comeTo 404 = .ok (.dup, 1) := by decide +kernel
theorem dX8_comeTo_405 : decode cX8_comeTo 405 = .ok (.getfield 103, 3) := by decide +kernel
theorem dX8_comeTo_408 : decode cX8_comeTo 408 = .ok (.iconst 1, 1) := by decide +kernel
theorem dX8_comeTo_409 : decode cX8_comeTo 409 = .ok (.isub, 1) := by decide +kernel
theorem dX8_comeTo_410 : decode cX8_comeTo 410 = .ok (.putfield 103, 3) := by decide +kernel
theorem dX8_comeTo_413 : decode cX8_comeTo 413 = .ok (.goto 50, 3) := by decide +kernel
theorem dX8_comeTo_416 : decode cX8_comeTo 416 = .ok (.iload 10, 2) := by decide +kernel
theorem dX8_comeTo_418 : decode cX8_comeTo 418 = .ok (.ifCond .eq 19, 3) := by decide +kernel
theorem dX8_comeTo_421 : decode cX8_comeTo 421 = .ok (.aload_n 0, 1) := by decide +kernel
theorem dX8_comeTo_422 : decode cX8_comeTo 422 = .ok (.getfield 34, 3) := by decide +kernel
theorem dX8_comeTo_425 : decode cX8_comeTo 425 = .ok (.iload 6, 2) := by decide +kernel
theorem dX8_comeTo_427 : decode cX8_comeTo 427 = .ok (.iload 5, 2) := by decide +kernel
theorem dX8_comeTo_429 : decode cX8_comeTo 429 = .ok (.iastore, 1) := by decide +kernel
theorem dX8_comeTo_430 : decode cX8_comeTo 430 = .ok (.iload 9, 2) := by decide +kernel
theorem dX8_comeTo_432 : decode cX8_comeTo 432 = .ok (.istore 4, 2) := by decide +kernel
theorem dX8_comeTo_434 : decode cX8_comeTo 434 = .ok (.goto 29, 3) := by decide +kernel
theorem dX8_comeTo_437 : decode cX8_comeTo 437 = .ok (.iload 8, 2) := by decide +kernel
theorem dX8_comeTo_439 : decode cX8_comeTo 439 = .ok (.aload_n 0, 1) := by decide +kernel
theorem dX8_comeTo_440 : decode cX8_comeTo 440 = .ok (.getfield 34, 3) := by decide +kernel
theorem dX8_comeTo_443 : decode cX8_comeTo 443 = .ok (.iload 6, 2) := by decide +kernel
theorem dX8_comeTo_445 : decode cX8_comeTo 445 = .ok (.iaload, 1) := by decide +kernel
theorem dX8_comeTo_446 : decode cX8_comeTo 446 = .ok (.iload 5, 2) := by decide +kernel
theorem dX8_comeTo_448 : decode cX8_comeTo 448 = .ok (.invokestatic 115, 3) := by decide +kernel
theorem dX8_comeTo_451 : decode cX8_comeTo 451 = .ok (.istore 5, 2) := by decide +kernel
theorem dX8_comeTo_453 : decode cX8_comeTo 453 = .ok (.aload_n 0, 1) := by decide +kernel
theorem dX8_comeTo_454 : decode cX8_comeTo 454 = .ok (.dup, 1) := by decide +kernel
theorem dX8_comeTo_455 : decode cX8_comeTo 455 = .ok (.getfield 103, 3) := by decide +kernel
theorem dX8_comeTo_458 : decode cX8_comeTo 458 = .ok (.iconst 1, 1) := by decide +kernel
theorem dX8_comeTo_459 : decode cX8_comeTo 459 = .ok (.isub, 1) := by decide +kernel
theorem dX8_comeTo_460 : decode cX8_comeTo 460 = .ok (.putfield 103, 3) := by decide +kernel
theorem dX8_comeTo_463 : decode cX8_comeTo 463 = .ok (.goto (-432), 3) := by decide +kernel
theorem dX8_comeTo_466 : decode cX8_comeTo 466 = .ok (.iload 5, 2) := by decide +kernel
theorem dX8_comeTo_468 : decode cX8_comeTo 468 = .ok (.ireturn, 1) := by decide +kernel
theorem dX8_comes_0 : decode cX8_comes 0 = .ok (.aload_n 0, 1) := by decide +kernel
theorem dX8_comes_1 : decode cX8_comes 1 = .ok (.iload_n 1, 1) := by decide +kernel
theorem dX8_comes_2 : decode cX8_comes 2 = .ok (.invokevirtual 100, 3) := by decide +kernel
theorem dX8_comes_5 : decode cX8_comes 5 = .ok (.ifCond .ne 5, 3) := by decide +kernel
theorem dX8_comes_8 : decode cX8_comes 8 = .ok (.iconst (-1), 1) := by decide +kernel
theorem dX8_comes_9 : decode cX8_comes 9 = .ok (.ireturn, 1) := by decide +kernel
theorem dX8_comes_10 : decode cX8_comes 10 = .ok (.iload_n 2, 1) := by decide +kernel
theorem dX8_comes_11 : decode cX8_comes 11 = .ok (.iconst 0, 1) := by decide +kernel
theorem dX8_comes_12 : decode cX8_comes 12 = .ok (.sipush 999, 3) := by decide +kernel
theorem dX8_comes_15 : decode cX8_comes 15 = .ok (.invokestatic 66, 3) := by decide +kernel
theorem dX8_comes_18 : decode cX8_comes 18 = .ok (.ifCond .ne 6, 3) := by decide +kernel
theorem dX8_comes_21 : decode cX8_comes 21 = .ok (.bipush (-2), 2) := by decide +kernel
theorem dX8_comes_23 : decode cX8_comes 23 = .ok (.ireturn, 1) := by decide +kernel
theorem dX8_comes_24 : decode cX8_comes 24 = .ok (.aload_n 0, 1) := by decide +kernel
theorem dX8_comes_25 : decode cX8_comes 25 = .ok (.invokevirtual 81, 3) := by decide +kernel
theorem dX8_comes_28 : decode cX8_comes 28 = .ok (.ifCond .lt 6, 3) := by decide +kernel
theorem dX8_comes_31 : decode cX8_comes 31 = .ok (.bipush (-5), 2) := by decide +kernel
theorem dX8_comes_33 : decode cX8_comes 33 = .ok (.ireturn, 1) := by decide +kernel
theorem dX8_comes_34 : decode cX8_comes 34 = .ok (.aload_n 0, 1) := by decide +kernel
theorem dX8_comes_35 : decode cX8_comes 35 = .ok (.bipush 60, 2) := by decide +kernel
theorem dX8_comes_37 : decode cX8_comes 37 = .ok (.invokevirtual 85, 3) := by decide +kernel
theorem dX8_comes_40 : decode cX8_comes 40 = .ok (.aload_n 0, 1) := by decide +kernel
theorem dX8_comes_41 : decode cX8_comes 41 = .ok (.iload_n 1, 1) := by decide +kernel
theorem dX8_comes_42 : decode cX8_comes 42 = .ok (.invokevirtual 119, 3) := by decide +kernel
theorem dX8_comes_45 : decode cX8_comes 45 = .ok (.aload_n 0, 1) := by decide +kernel
theorem dX8_comes_46 : decode cX8_comes 46 = .ok (.bipush 60, 2) := by decide +kernel
theorem dX8_comes_48 : decode cX8_comes 48 = .ok (.iload_n 2, 1) := by decide +kernel
theorem dX8_comes_49 : decode cX8_comes 49 = .ok (.invokevirtual 122, 3) := by decide +kernel
theorem dX8_comes_52 : decode cX8_comes 52 = .ok (.ireturn, 1) := by decide +kernel
theorem dX8_tells_0 : decode cX8_tells 0 = .ok (.iload_n 1, 1) := by decide +kernel
theorem dX8_tells_1 : decode cX8_tells 1 = .ok (.invokestatic 97, 3) := by decide +kernel
theorem dX8_tells_4 : decode cX8_tells 4 = .ok (.ifCond .ne 5, 3) := by decide +kernel
theorem dX8_tells_7 : decode cX8_tells 7 = .ok (.iconst (-1), 1) := by decide +kernel
theorem dX8_tells_8 : decode cX8_tells 8 = .ok (.ireturn, 1) := by decide +kernel
theorem dX8_tells_9 : decode cX8_tells 9 = .ok (.aload_n 0, 1) := by decide +kernel
theorem dX8_tells_10 : decode cX8_tells 10 = .ok (.getfield 70, 3) := by decide +kernel
theorem dX8_tells_13 : decode cX8_tells 13 = .ok (.bipush 12, 2) := by decide +kernel
theorem dX8_tells_15 : decode cX8_tells 15 = .ok (.if_icmp .ne 6, 3) := by decide +kernel
theorem dX8_tells_18 : decode cX8_tells 18 = .ok (.bipush (-4), 2) := by decide +kernel
theorem dX8_tells_20 : decode cX8_tells 20 = .ok (.ireturn, 1) := by decide +kernel
theorem dX8_tells_21 : decode cX8_tells 21 = .ok (.aload_n 0, 1) := by decide +kernel
theorem dX8_tells_22 : decode cX8_tells 22 = .ok (.getfield 19, 3) := by decide +kernel
theorem dX8_tells_25 : decode cX8_tells 25 = .ok (.aload_n 0, 1) := by decide +kernel
theorem dX8_tells_26 : decode cX8_tells 26 = .ok (.getfield 70, 3) := by decide +kernel
theorem dX8_tells_29 : decode cX8_tells 29 = .ok (.iload_n 1, 1) := by decide +kernel
theorem dX8_tells_30 : decode cX8_tells 30 = .ok (.iastore, 1) := by decide +kernel
theorem dX8_tells_31 : decode cX8_tells 31 = .ok (.aload_n 0, 1) := by decide +kernel
theorem dX8_tells_32 : decode cX8_tells 32 = .ok (.getfield 16, 3) := by decide +kernel
theorem dX8_tells_35 : decode cX8_tells 35 = .ok (.bipush 48, 2) := by decide +kernel
theorem dX8_tells_37 : decode cX8_tells 37 = .ok (.aload_n 0, 1) := by decide +kernel
theorem dX8_tells_38 : decode cX8_tells 38 = .ok (.getfield 70, 3) := by decide +kernel
theorem dX8_tells_41 : decode cX8_tells 41 = .ok (.iadd, 1) := by decide +kernel
theorem dX8_tells_42 : decode cX8_tells 42 = .ok (.iconst 0, 1) := by decide +kernel
theorem dX8_tells_43 : decode cX8_tells 43 = .ok (.iastore, 1) := by decide +kernel
theorem dX8_tells_44 : decode cX8_tells 44 = .ok (.aload_n 0, 1) := by decide +kernel
theorem dX8_tells_45 : decode cX8_tells 45 = .ok (.dup, 1) := by decide +kernel
theorem dX8_tells_46 : decode cX8_tells 46 = .ok (.getfield 70, 3) := by decide +kernel
theorem dX8_tells_49 : decode cX8_tells 49 = .ok (.iconst 1, 1) := by decide +kernel
theorem dX8_tells_50 : decode cX8_tells 50 = .ok (.iadd, 1) := by decide +kernel
theorem dX8_tells_51 : decode cX8_tells 51 = .ok (.putfield 70, 3) := by decide +kernel
theorem dX8_tells_54 : decode cX8_tells 54 = .ok (.aload_n 0, 1) := by decide +kernel
theorem dX8_tells_55 : decode cX8_tells 55 = .ok (.iconst 0, 1) := by decide +kernel
theorem dX8_tells_56 : decode cX8_tells 56 = .ok (.putfield 93, 3) := by decide +kernel
theorem dX8_tells_59 : decode cX8_tells 59 = .ok (.aload_n 0, 1) := by decide +kernel
theorem dX8_tells_60 : decode cX8_tells 60 = .ok (.getfield 70, 3) := by decide +kernel
theorem dX8_tells_63 : decode cX8_tells 63 = .ok (.iconst 1, 1) := by decide +kernel
theorem dX8_tells_64 : decode cX8_tells 64 = .ok (.isub, 1) := by decide +kernel
theorem dX8_tells_65 : decode cX8_tells 65 = .ok (.ireturn, 1) := by decide +kernel
theorem dX8_shows_0 : decode cX8_shows 0 = .ok (.iload_n 1, 1) := by decide +kernel
theorem dX8_shows_1 : decode cX8_shows 1 = .ok (.iconst 0, 1) := by decide +kernel
theorem dX8_shows_2 : decode cX8_shows 2 = .ok (.sipush 999, 3) := by decide +kernel
theorem dX8_shows_5 : decode cX8_shows 5 = .ok (.invokestatic 66, 3) := by decide +kernel
theorem dX8_shows_8 : decode cX8_shows 8 = .ok (.ifCond .ne 6, 3) := by decide +kernel
theorem dX8_shows_11 : decode cX8_shows 11 = .ok (.bipush (-2), 2) := by decide +kernel
theorem dX8_shows_13 : decode cX8_shows 13 = .ok (.ireturn, 1) := by decide +kernel
theorem dX8_shows_14 : decode cX8_shows 14 = .ok (.aload_n 0, 1) := by decide +kernel
theorem dX8_shows_15 : decode cX8_shows 15 = .ok (.getfield 70, 3) := by decide +kernel
theorem dX8_shows_18 : decode cX8_shows 18 = .ok (.bipush 12, 2) := by decide +kernel
theorem dX8_shows_20 : decode cX8_shows 20 = .ok (.if_icmp .ne 6, 3) := by decide +kernel
theorem dX8_shows_23 : decode cX8_shows 23 = .ok (.bipush (-4), 2) := by decide +kernel
theorem dX8_shows_25 : decode cX8_shows 25 = .ok (.ireturn, 1) := by decide +kernel
theorem dX8_shows_26 : decode cX8_shows 26 = .ok (.iconst 0, 1) := by decide +kernel
theorem dX8_shows_27 : decode cX8_shows 27 = .ok (.istore_n 2, 1) := by decide +kernel
theorem dX8_shows_28 : decode cX8_shows 28 = .ok (.iconst 0, 1) := by decide +kernel
theorem dX8_shows_29 : decode cX8_shows 29 = .ok (.istore_n 3, 1) := by decide +kernel
theorem dX8_shows_30 : decode cX8_shows 30 = .ok (.iload_n 3, 1) := by decide +kernel
theorem dX8_shows_31 : decode cX8_shows 31 = .ok (.aload_n 0, 1) := by decide +kernel
theorem dX8_shows_32 : decode cX8_shows 32 = .ok (.getfield 16, 3) := by decide +kernel
theorem dX8_shows_35 : decode cX8_shows 35 = .ok (.bipush 60, 2) := by decide +kernel
theorem dX8_shows_37 : decode cX8_shows 37 = .ok (.iaload, 1) := by decide +kernel
theorem dX8_shows_38 : decode cX8_shows 38 = .ok (.if_icmp .ge 34, 3) := by decide +kernel
theorem dX8_shows_41 : decode cX8_shows 41 = .ok (.iload_n 2, 1) := by decide +kernel
theorem dX8_shows_42 : decode cX8_shows 42 = .ok (.ifCond .ne 18, 3) := by decide +kernel
theorem dX8_shows_45 : decode cX8_shows 45 = .ok (.aload_n 0, 1) := by decide +kernel
theorem dX8_shows_46 : decode cX8_shows 46 = .ok (.getfield 7, 3) := by decide +kernel
theorem dX8_shows_49 : decode cX8_shows 49 = .ok (.sipush 2400, 3) := by decide +kernel
theorem dX8_shows_52 : decode cX8_shows 52 = .ok (.iload_n 3, 1) := by decide +kernel
theorem dX8_shows_53 : decode cX8_shows 53 = .ok (.iadd, 1) := by decide +kernel
theorem dX8_shows_54 : decode cX8_shows 54 = .ok (.iaload, 1) := by decide +kernel
theorem dX8_shows_55 : decode cX8_shows 55 = .ok (.bipush 120, 2) := by decide +kernel
theorem dX8_shows_57 : decode cX8_shows 57 = .ok (.if_icmp .ne 7, 3) := by decide +kernel
theorem dX8_shows_60 : decode cX8_shows 60 = .ok (.iconst 1, 1) := by decide +kernel
theorem dX8_shows_61 : decode cX8_shows 61 = .ok (.goto 4, 3) := by decide +kernel
theorem dX8_shows_64 : decode cX8_shows 64 = .ok (.iconst 0, 1) := by decide +kernel
theorem dX8_shows_65 : decode cX8_shows 65 = .ok (.istore_n 2, 1) := by decide +kernel
theorem dX8_shows_66 : decode cX8_shows 66 = .ok (.iinc 3 1, 3) := by decide +kernel
theorem dX8_shows_69 : decode cX8_shows 69 = .ok (.goto (-39), 3) := by decide +kernel
theorem dX8_shows_72 : decode cX8_shows 72 = .ok (.iload_n 2, 1) := by decide +kernel
theorem dX8_shows_73 : decode cX8_shows 73 = .ok (.ifCond .ne 10, 3) := by decide +kernel
theorem dX8_shows_76 : decode cX8_shows 76 = .ok (.aload_n 0, 1) := by decide +kernel
theorem dX8_shows_77 : decode cX8_shows 77 = .ok (.invokevirtual 81, 3) := by decide +kernel
theorem dX8_shows_80 : decode cX8_shows 80 = .ok (.ifCond .lt 6, 3) := by decide +kernel
theorem dX8_shows_83 : decode cX8_shows 83 = .ok (.bipush (-5), 2) := by decide +kernel
theorem dX8_shows_85 : decode cX8_shows 85 = .ok (.ireturn, 1) := by decide +kernel
theorem dX8_shows_86 : decode cX8_shows 86 = .ok (.aload_n 0, 1) := by decide +kernel
theorem dX8_shows_87 : decode cX8_shows 87 = .ok (.bipush 60, 2) := by decide +kernel
theorem dX8_shows_89 : decode cX8_shows 89 = .ok (.bipush 48, 2) := by decide +kernel
theorem dX8_shows_91 : decode cX8_shows 91 = .ok (.aload_n 0, 1) := by decide +kernel
theorem dX8_shows_92 : decode cX8_shows 92 = .ok (.getfield 70, 3) := by decide +kernel
theorem dX8_shows_95 : decode cX8_shows 95 = .ok (.iadd, 1) := by decide +kernel
theorem dX8_shows_96 : decode cX8_shows 96 = .ok (.invokevirtual 89, 3) := by decide +kernel
theorem dX8_shows_99 : decode cX8_shows 99 = .ok (.aload_n 0, 1) := by decide +kernel
theorem dX8_shows_100 : decode cX8_shows 100 = .ok (.getfield 16, 3) := by decide +kernel
theorem dX8_shows_103 : decode cX8_shows 103 = .ok (.bipush 60, 2) := by decide +kernel
theorem dX8_shows_105 : decode cX8_shows 105 = .ok (.iconst 0, 1) := by decide +kernel
theorem dX8_shows_106 : decode cX8_shows 106 = .ok (.iastore, 1) := by decide +kernel
theorem dX8_shows_107 : decode cX8_shows 107 = .ok (.aload_n 0, 1) := by decide +kernel
theorem dX8_shows_108 : decode cX8_shows 108 = .ok (.getfield 19, 3) := by decide +kernel
theorem dX8_shows_111 : decode cX8_shows 111 = .ok (.aload_n 0, 1) := by decide +kernel
theorem dX8_shows_112 : decode cX8_shows 112 = .ok (.getfield 70, 3) := by decide +kernel
theorem dX8_shows_115 : decode cX8_shows 115 = .ok (.bipush (-6), 2) := by decide +kernel
theorem dX8_shows_117 : decode cX8_shows 117 = .ok (.iastore, 1) := by decide +kernel
theorem dX8_shows_118 : decode cX8_shows 118 = .ok (.aload_n 0, 1) := by decide +kernel
theorem dX8_shows_119 : decode cX8_shows 119 = .ok (.getfield 22, 3) := by decide +kernel
theorem dX8_shows_122 : decode cX8_shows 122 = .ok (.aload_n 0, 1) := by decide +kernel
theorem dX8_shows_123 : decode cX8_shows 123 = .ok (.getfield 70, 3) := by decide +kernel
theorem dX8_shows_126 : decode cX8_shows 126 = .ok (.iload_n 1, 1) := by decide +kernel
theorem dX8_shows_127 : decode cX8_shows 127 = .ok (.iastore, 1) := by decide +kernel
theorem dX8_shows_128 : decode cX8_shows 128 = .ok (.aload_n 0, 1) := by decide +kernel
theorem dX8_shows_129 : decode cX8_shows 129 = .ok (.dup, 1) := by decide +kernel
theorem dX8_shows_130 : decode cX8_shows 130 = .ok (.getfield 70, 3) := by decide +kernel
theorem dX8_shows_133 : decode cX8_shows 133 = .ok (.iconst 1, 1) := by decide +kernel
theorem dX8_shows_134 : decode cX8_shows 134 = .ok (.iadd, 1) := by decide +kernel
theorem dX8_shows_135 : decode cX8_shows 135 = .ok (.putfield 70, 3) := by decide +kernel
theorem dX8_shows_138 : decode cX8_shows 138 = .ok (.aload_n 0, 1) := by decide +kernel
theorem dX8_shows_139 : decode cX8_shows 139 = .ok (.iconst 0, 1) := by decide +kernel
theorem dX8_shows_140 : decode cX8_shows 140 = .ok (.putfield 93, 3) := by decide +kernel
theorem dX8_shows_143 : decode cX8_shows 143 = .ok (.aload_n 0, 1) := by decide +kernel
theorem dX8_shows_144 : decode cX8_shows 144 = .ok (.getfield 70, 3) := by decide +kernel
theorem dX8_shows_147 : decode cX8_shows 147 = .ok (.iconst 1, 1) := by decide +kernel
theorem dX8_shows_148 : decode cX8_shows 148 = .ok (.isub, 1) := by decide +kernel
theorem dX8_shows_149 : decode cX8_shows 149 = .ok (.ireturn, 1) := by decide +kernel
theorem dX8_namedIn_0 : decode cX8_namedIn 0 = .ok (.iconst 0, 1) := by decide +kernel
theorem dX8_namedIn_1 : decode cX8_namedIn 1 = .ok (.istore_n 2, 1) := by decide +kernel
theorem dX8_namedIn_2 : decode cX8_namedIn 2 = .ok (.iconst 0, 1) := by decide +kernel
theorem dX8_namedIn_3 : decode cX8_namedIn 3 = .ok (.istore_n 3, 1) := by decide +kernel
theorem dX8_namedIn_4 : decode cX8_namedIn 4 = .ok (.iload_n 3, 1) := by decide +kernel
theorem dX8_namedIn_5 : decode cX8_namedIn 5 = .ok (.aload_n 0, 1) := by decide +kernel
theorem dX8_namedIn_6 : decode cX8_namedIn 6 = .ok (.getfield 16, 3) := by decide +kernel
theorem dX8_namedIn_9 : decode cX8_namedIn 9 = .ok (.bipush 48, 2) := by decide +kernel
theorem dX8_namedIn_11 : decode cX8_namedIn 11 = .ok (.iload_n 1, 1) := by decide +kernel
theorem dX8_namedIn_12 : decode cX8_namedIn 12 = .ok (.iadd, 1) := by decide +kernel
theorem dX8_namedIn_13 : decode cX8_namedIn 13 = .ok (.iaload, 1) := by decide +kernel
theorem dX8_namedIn_14 : decode cX8_namedIn 14 = .ok (.if_icmp .ge 51, 3) := by decide +kernel
theorem dX8_namedIn_17 : decode cX8_namedIn 17 = .ok (.aload_n 0, 1) := by decide +kernel
theorem dX8_namedIn_18 : decode cX8_namedIn 18 = .ok (.getfield 7, 3) := by decide +kernel
theorem dX8_namedIn_21 : decode cX8_namedIn 21 = .ok (.bipush 40, 2) := by decide +kernel
theorem dX8_namedIn_23 : decode cX8_namedIn 23 = .ok (.bipush 48, 2) := by decide +kernel
theorem dX8_namedIn_25 : decode cX8_namedIn 25 = .ok (.iload_n 1, 1) := by decide +kernel
theorem dX8_namedIn_26 : decode cX8_namedIn 26 = .ok (.iadd, 1) := by decide +kernel
theorem dX8_namedIn_27 : decode cX8_namedIn 27 = .ok (.imul, 1) := by decide +kernel
theorem dX8_namedIn_28 : decode cX8_namedIn 28 = .ok (.iload_n 3, 1) := by decide +kernel
theorem dX8_namedIn_29 : decode cX8_namedIn 29 = .ok (.iadd, 1) := by decide +kernel
theorem dX8_namedIn_30 : decode cX8_namedIn 30 = .ok (.iaload, 1) := by decide +kernel
theorem dX8_namedIn_31 : decode cX8_namedIn 31 = .ok (.istore 4, 2) := by decide +kernel
theorem dX8_namedIn_33 : decode cX8_namedIn 33 = .ok (.iload_n 2, 1) := by decide +kernel
theorem dX8_namedIn_34 : decode cX8_namedIn 34 = .ok (.iload 4, 2) := by decide +kernel
theorem dX8_namedIn_36 : decode cX8_namedIn 36 = .ok (.bipush 97, 2) := by decide +kernel
theorem dX8_namedIn_38 : decode cX8_namedIn 38 = .ok (.bipush 104, 2) := by decide +kernel
theorem dX8_namedIn_40 : decode cX8_namedIn 40 = .ok (.invokestatic 66, 3) := by decide +kernel
theorem dX8_namedIn_43 : decode cX8_namedIn 43 = .ok (.ifCond .eq 13, 3) := by decide +kernel
theorem dX8_namedIn_46 : decode cX8_namedIn 46 = .ok (.iconst 1, 1) := by decide +kernel
theorem dX8_namedIn_47 : decode cX8_namedIn 47 = .ok (.iload 4, 2) := by decide +kernel
theorem dX8_namedIn_49 : decode cX8_namedIn 49 = .ok (.bipush 97, 2) := by decide +kernel
theorem dX8_namedIn_51 : decode cX8_namedIn 51 = .ok (.isub, 1) := by decide +kernel
theorem dX8_namedIn_52 : decode cX8_namedIn 52 = .ok (.ishl, 1) := by decide +kernel
theorem dX8_namedIn_53 : decode cX8_namedIn 53 = .ok (.goto 4, 3) := by decide +kernel
theorem dX8_namedIn_56 : decode cX8_namedIn 56 = .ok (.iconst 0, 1) := by decide +kernel
theorem dX8_namedIn_57 : decode cX8_namedIn 57 = .ok (.ior, 1) := by decide +kernel
theorem dX8_namedIn_58 : decode cX8_namedIn 58 = .ok (.istore_n 2, 1) := by decide +kernel
theorem dX8_namedIn_59 : decode cX8_namedIn 59 = .ok (.iinc 3 1, 3) := by decide +kernel
theorem dX8_namedIn_62 : decode cX8_namedIn 62 = .ok (.goto (-58), 3) := by decide +kernel
theorem dX8_namedIn_65 : decode cX8_namedIn 65 = .ok (.iload_n 2, 1) := by decide +kernel
theorem dX8_namedIn_66 : decode cX8_namedIn 66 = .ok (.ireturn, 1) := by decide +kernel
theorem dX8_page_0 : decode cX8_page 0 = .ok (.aload_n 0, 1) := by decide +kernel
theorem dX8_page_1 : decode cX8_page 1 = .ok (.iload_n 1, 1) := by decide +kernel
theorem dX8_page_2 : decode cX8_page 2 = .ok (.invokevirtual 73, 3) := by decide +kernel
theorem dX8_page_5 : decode cX8_page 5 = .ok (.ifCond .ne 5, 3) := by decide +kernel
theorem dX8_page_8 : decode cX8_page 8 = .ok (.iconst (-1), 1) := by decide +kernel
theorem dX8_page_9 : decode cX8_page 9 = .ok (.ireturn, 1) := by decide +kernel
theorem dX8_page_10 : decode cX8_page 10 = .ok (.aload_n 0, 1) := by decide +kernel
theorem dX8_page_11 : decode cX8_page 11 = .ok (.getfield 19, 3) := by decide +kernel
theorem dX8_page_14 : decode cX8_page 14 = .ok (.iload_n 1, 1) := by decide +kernel
theorem dX8_page_15 : decode cX8_page 15 = .ok (.iaload, 1) := by decide +kernel
theorem dX8_page_16 : decode cX8_page 16 = .ok (.ifCond .ge 7, 3) := by decide +kernel
theorem dX8_page_19 : decode cX8_page 19 = .ok (.iconst 1, 1) := by decide +kernel
theorem dX8_page_20 : decode cX8_page 20 = .ok (.goto 4, 3) := by decide +kernel
theorem dX8_page_23 : decode cX8_page 23 = .ok (.iconst 0, 1) := by decide +kernel
theorem dX8_page_24 : decode cX8_page 24 = .ok (.istore_n 3, 1) := by decide +kernel
theorem dX8_page_25 : decode cX8_page 25 = .ok (.iload_n 2, 1) := by decide +kernel
theorem dX8_page_26 : decode cX8_page 26 = .ok (.ifCond .ne 12, 3) := by decide +kernel
theorem dX8_page_29 : decode cX8_page 29 = .ok (.aload_n 0, 1) := by decide +kernel
theorem dX8_page_30 : decode cX8_page 30 = .ok (.getfield 19, 3) := by decide +kernel
theorem dX8_page_33 : decode cX8_page 33 = .ok (.iload_n 1, 1) := by decide +kernel
theorem dX8_page_34 : decode cX8_page 34 = .ok (.iaload, 1) := by decide +kernel
theorem dX8_page_35 : decode cX8_page 35 = .ok (.goto 58, 3) := by decide +kernel
theorem dX8_page_38 : decode cX8_page 38 = .ok (.iload_n 2, 1) := by decide +kernel
theorem dX8_page_39 : decode cX8_page 39 = .ok (.iconst 1, 1) := by decide +kernel
theorem dX8_page_40 : decode cX8_page 40 = .ok (.if_icmp .ne 21, 3) := by decide +kernel
theorem dX8_page_43 : decode cX8_page 43 = .ok (.iload_n 3, 1) := by decide +kernel
theorem dX8_page_44 : decode cX8_page 44 = .ok (.ifCond .eq 12, 3) := by decide +kernel
theorem dX8_page_47 : decode cX8_page 47 = .ok (.aload_n 0, 1) := by decide +kernel
theorem dX8_page_48 : decode cX8_page 48 = .ok (.getfield 22, 3) := by decide +kernel
theorem dX8_page_51 : decode cX8_page 51 = .ok (.iload_n 1, 1) := by decide +kernel
theorem dX8_page_52 : decode cX8_page 52 = .ok (.iaload, 1) := by decide +kernel
theorem dX8_page_53 : decode cX8_page 53 = .ok (.goto 40, 3) := by decide +kernel
theorem dX8_page_56 : decode cX8_page 56 = .ok (.bipush (-6), 2) := by decide +kernel
theorem dX8_page_58 : decode cX8_page 58 = .ok (.goto 35, 3) := by decide +kernel
theorem dX8_page_61 : decode cX8_page 61 = .ok (.iload_n 2, 1) := by decide +kernel
theorem dX8_page_62 : decode cX8_page 62 = .ok (.iconst 2, 1) := by decide +kernel
theorem dX8_page_63 : decode cX8_page 63 = .ok (.if_icmp .ne 11, 3) := by decide +kernel
theorem dX8_page_66 : decode cX8_page 66 = .ok (.aload_n 0, 1) := by decide +kernel
theorem dX8_page_67 : decode cX8_page 67 = .ok (.iload_n 1, 1) := by decide +kernel
theorem dX8_page_68 : decode cX8_page 68 = .ok (.invokevirtual 126, 3) := by decide +kernel
theorem dX8_page_71 : decode cX8_page 71 = .ok (.goto 22, 3) := by decide +kernel
theorem dX8_page_74 : decode cX8_page 74 = .ok (.iload_n 2, 1) := by decide +kernel
theorem dX8_page_75 : decode cX8_page 75 = .ok (.iconst 3, 1) := by decide +kernel
theorem dX8_page_76 : decode cX8_page 76 = .ok (.if_icmp .ne 15, 3) := by decide +kernel
theorem dX8_page_79 : decode cX8_page 79 = .ok (.aload_n 0, 1) := by decide +kernel
theorem dX8_page_80 : decode cX8_page 80 = .ok (.getfield 16, 3) := by decide +kernel
theorem dX8_page_83 : decode cX8_page 83 = .ok (.bipush 48, 2) := by decide +kernel
theorem dX8_page_85 : decode cX8_page 85 = .ok (.iload_n 1, 1) := by decide +kernel
theorem dX8_page_86 : decode cX8_page 86 = .ok (.iadd, 1) := by decide +kernel
theorem dX8_page_87 : decode cX8_page 87 = .ok (.iaload, 1) := by decide +kernel
theorem dX8_page_88 : decode cX8_page 88 = .ok (.goto 5, 3) := by decide +kernel
theorem dX8_page_91 : decode cX8_page 91 = .ok (.bipush (-2), 2) := by decide +kernel
theorem dX8_page_93 : decode cX8_page 93 = .ok (.ireturn, 1) := by decide +kernel
theorem dX8_holds_0 : decode cX8_holds 0 = .ok (.aload_n 0, 1) := by decide +kernel
theorem dX8_holds_1 : decode cX8_holds 1 = .ok (.bipush 48, 2) := by decide +kernel
theorem dX8_holds_3 : decode cX8_holds 3 = .ok (.iload_n 1, 1) := by decide +kernel
theorem dX8_holds_4 : decode cX8_holds 4 = .ok (.iadd, 1) := by decide +kernel
theorem dX8_holds_5 : decode cX8_holds 5 = .ok (.iconst 0, 1) := by decide +kernel
theorem dX8_holds_6 : decode cX8_holds 6 = .ok (.invokevirtual 122, 3) := by decide +kernel
theorem dX8_holds_9 : decode cX8_holds 9 = .ok (.aload_n 0, 1) := by decide +kernel
theorem dX8_holds_10 : decode cX8_holds 10 = .ok (.getfield 22, 3) := by decide +kernel
theorem dX8_holds_13 : decode cX8_holds 13 = .ok (.iload_n 1, 1) := by decide +kernel
theorem dX8_holds_14 : decode cX8_holds 14 = .ok (.iaload, 1) := by decide +kernel
theorem dX8_holds_15 : decode cX8_holds 15 = .ok (.if_icmp .ne 7, 3) := by decide +kernel
theorem dX8_holds_18 : decode cX8_holds 18 = .ok (.iconst 1, 1) := by decide +kernel
theorem dX8_holds_19 : decode cX8_holds 19 = .ok (.goto 4, 3) := by decide +kernel
theorem dX8_holds_22 : decode cX8_holds 22 = .ok (.iconst 0, 1) := by decide +kernel
theorem dX8_holds_23 : decode cX8_holds 23 = .ok (.ireturn, 1) := by decide +kernel
theorem dX8_holdsIn_0 : decode cX8_holdsIn 0 = .ok (.aload_n 0, 1) := by decide +kernel
theorem dX8_holdsIn_1 : decode cX8_holdsIn 1 = .ok (.iload_n 2, 1) := by decide +kernel
theorem dX8_holdsIn_2 : decode cX8_holdsIn 2 = .ok (.invokevirtual 119, 3) := by decide +kernel
theorem dX8_holdsIn_5 : decode cX8_holdsIn 5 = .ok (.aload_n 0, 1) := by decide +kernel
theorem dX8_holdsIn_6 : decode cX8_holdsIn 6 = .ok (.iload_n 1, 1) := by decide +kernel
theorem dX8_holdsIn_7 : decode cX8_holdsIn 7 = .ok (.invokevirtual 129, 3) := by decide +kernel
theorem dX8_holdsIn_10 : decode cX8_holdsIn 10 = .ok (.ireturn, 1) := by decide +kernel
theorem dX8_held_0 : decode cX8_held 0 = .ok (.aload_n 0, 1) := by decide +kernel
theorem dX8_held_1 : decode cX8_held 1 = .ok (.iload_n 1, 1) := by decide +kernel
theorem dX8_held_2 : decode cX8_held 2 = .ok (.invokevirtual 132, 3) := by decide +kernel
theorem dX8_held_5 : decode cX8_held 5 = .ok (.ifCond .eq 11, 3) := by decide +kernel
theorem dX8_held_8 : decode cX8_held 8 = .ok (.aload_n 0, 1) := by decide +kernel
theorem dX8_held_9 : decode cX8_held 9 = .ok (.iload_n 2, 1) := by decide +kernel
theorem dX8_held_10 : decode cX8_held 10 = .ok (.invokevirtual 100, 3) := by decide +kernel
theorem dX8_held_13 : decode cX8_held 13 = .ok (.ifCond .ne 5, 3) := by decide +kernel
theorem dX8_held_16 : decode cX8_held 16 = .ok (.iconst (-1), 1) := by decide +kernel
theorem dX8_held_17 : decode cX8_held 17 = .ok (.ireturn, 1) := by decide +kernel
theorem dX8_held_18 : decode cX8_held 18 = .ok (.iload_n 3, 1) := by decide +kernel
theorem dX8_held_19 : decode cX8_held 19 = .ok (.iconst 0, 1) := by decide +kernel
theorem dX8_held_20 : decode cX8_held 20 = .ok (.iconst 2, 1) := by decide +kernel
theorem dX8_held_21 : decode cX8_held 21 = .ok (.invokestatic 66, 3) := by decide +kernel
theorem dX8_held_24 : decode cX8_held 24 = .ok (.ifCond .ne 6, 3) := by decide +kernel
theorem dX8_held_27 : decode cX8_held 27 = .ok (.bipush (-2), 2) := by decide +kernel
theorem dX8_held_29 : decode cX8_held 29 = .ok (.ireturn, 1) := by decide +kernel
theorem dX8_held_30 : decode cX8_held 30 = .ok (.aload_n 0, 1) := by decide +kernel
theorem dX8_held_31 : decode cX8_held 31 = .ok (.iload_n 2, 1) := by decide +kernel
theorem dX8_held_32 : decode cX8_held 32 = .ok (.invokevirtual 119, 3) := by decide +kernel
theorem dX8_held_35 : decode cX8_held 35 = .ok (.aload_n 0, 1) := by decide +kernel
theorem dX8_held_36 : decode cX8_held 36 = .ok (.bipush 48, 2) := by decide +kernel
theorem dX8_held_38 : decode cX8_held 38 = .ok (.iload_n 1, 1) := by decide +kernel
theorem dX8_held_39 : decode cX8_held 39 = .ok (.iadd, 1) := by decide +kernel
theorem dX8_held_40 : decode cX8_held 40 = .ok (.iconst 0, 1) := by decide +kernel
theorem dX8_held_41 : decode cX8_held 41 = .ok (.invokevirtual 122, 3) := by decide +kernel
theorem dX8_held_44 : decode cX8_held 44 = .ok (.istore 4, 2) := by decide +kernel
theorem dX8_held_46 : decode cX8_held 46 = .ok (.iload_n 3, 1) := by decide +kernel
theorem dX8_held_47 : decode cX8_held 47 = .ok (.ifCond .ne 8, 3) := by decide +kernel
theorem dX8_held_50 : decode cX8_held 50 = .ok (.iload 4, 2) := by decide +kernel
theorem dX8_held_52 : decode cX8_held 52 = .ok (.goto 31, 3) := by decide +kernel
theorem dX8_held_55 : decode cX8_held 55 = .ok (.iload_n 3, 1) := by decide +kernel
theorem dX8_held_56 : decode cX8_held 56 = .ok (.iconst 1, 1) := by decide +kernel
theorem dX8_held_57 : decode cX8_held 57 = .ok (.if_icmp .ne 22, 3) := by decide +kernel
theorem dX8_held_60 : decode cX8_held 60 = .ok (.iload 4, 2) := by decide +kernel
theorem dX8_held_62 : decode cX8_held 62 = .ok (.aload_n 0, 1) := by decide +kernel
theorem dX8_held_63 : decode cX8_held 63 = .ok (.getfield 22, 3) := by decide +kernel
theorem dX8_held_66 : decode cX8_held 66 = .ok (.iload_n 1, 1) := by decide +kernel
theorem dX8_held_67 : decode cX8_held 67 = .ok (.iaload, 1) := by decide +kernel
theorem dX8_held_68 : decode cX8_held 68 = .ok (.if_icmp .ne 7, 3) := by decide +kernel
theorem dX8_held_71 : decode cX8_held 71 = .ok (.iconst 1, 1) := by decide +kernel
theorem dX8_held_72 : decode cX8_held 72 = .ok (.goto 11, 3) := by decide +kernel
theorem dX8_held_75 : decode cX8_held 75 = .ok (.iconst 0, 1) := by decide +kernel
theorem dX8_held_76 : decode cX8_held 76 = .ok (.goto 7, 3) := by decide +kernel
theorem dX8_held_79 : decode cX8_held 79 = .ok (.aload_n 0, 1) := by decide +kernel
theorem dX8_held_80 : decode cX8_held 80 = .ok (.getfield 106, 3) := by decide +kernel
theorem dX8_held_83 : decode cX8_held 83 = .ok (.ireturn, 1) := by decide +kernel
theorem dX8_stale_0 : decode cX8_stale 0 = .ok (.aload_n 0, 1) := by decide +kernel
theorem dX8_stale_1 : decode cX8_stale 1 = .ok (.iload_n 1, 1) := by decide +kernel
theorem dX8_stale_2 : decode cX8_stale 2 = .ok (.invokevirtual 132, 3) := by decide +kernel
theorem dX8_stale_5 : decode cX8_stale 5 = .ok (.ifCond .ne 5, 3) := by decide +kernel
theorem dX8_stale_8 : decode cX8_stale 8 = .ok (.iconst (-1), 1) := by decide +kernel
theorem dX8_stale_9 : decode cX8_stale 9 = .ok (.ireturn, 1) := by decide +kernel
theorem dX8_stale_10 : decode cX8_stale 10 = .ok (.iconst 0, 1) := by decide +kernel
theorem dX8_stale_11 : decode cX8_stale 11 = .ok (.istore_n 2, 1) := by decide +kernel
theorem dX8_stale_12 : decode cX8_stale 12 = .ok (.iconst 0, 1) := by decide +kernel
theorem dX8_stale_13 : decode cX8_stale 13 = .ok (.istore_n 3, 1) := by decide +kernel
theorem dX8_stale_14 : decode cX8_stale 14 = .ok (.iload_n 3, 1) := by decide +kernel
theorem dX8_stale_15 : decode cX8_stale 15 = .ok (.aload_n 0, 1) := by decide +kernel
theorem dX8_stale_16 : decode cX8_stale 16 = .ok (.getfield 62, 3) := by decide +kernel
theorem dX8_stale_19 : decode cX8_stale 19 = .ok (.if_icmp .ge 43, 3) := by decide +kernel
theorem dX8_stale_22 : decode cX8_stale 22 = .ok (.aload_n 0, 1) := by decide +kernel
theorem dX8_stale_23 : decode cX8_stale 23 = .ok (.iload_n 1, 1) := by decide +kernel
theorem dX8_stale_24 : decode cX8_stale 24 = .ok (.iload_n 3, 1) := by decide +kernel
theorem dX8_stale_25 : decode cX8_stale 25 = .ok (.invokevirtual 135, 3) := by decide +kernel
theorem dX8_stale_28 : decode cX8_stale 28 = .ok (.istore 4, 2) := by decide +kernel
theorem dX8_stale_30 : decode cX8_stale 30 = .ok (.iload_n 2, 1) := by decide +kernel
theorem dX8_stale_31 : decode cX8_stale 31 = .ok (.ifCond .eq 10, 3) := by decide +kernel
theorem dX8_stale_34 : decode cX8_stale 34 = .ok (.iload 4, 2) := by decide +kernel
theorem dX8_stale_36 : decode cX8_stale 36 = .ok (.ifCond .ne 5, 3) := by decide +kernel
theorem dX8_stale_39 : decode cX8_stale 39 = .ok (.iload_n 3, 1) := by decide +kernel
theorem dX8_stale_40 : decode cX8_stale 40 = .ok (.ireturn, 1) := by decide +kernel
theorem dX8_stale_41 : decode cX8_stale 41 = .ok (.iload_n 2, 1) := by decide +kernel
theorem dX8_stale_42 : decode cX8_stale 42 = .ok (.ifCond .ne 8, 3) := by decide +kernel
theorem dX8_stale_45 : decode cX8_stale 45 = .ok (.iload 4, 2) := by decide +kernel
theorem dX8_stale_47 : decode cX8_stale 47 = .ok (.ifCond .eq 7, 3) := by decide +kernel
theorem dX8_stale_50 : decode cX8_stale 50 = .ok (.iconst 1, 1) := by decide +kernel
theorem dX8_stale_51 : decode cX8_stale 51 = .ok (.goto 4, 3) := by decide +kernel
theorem dX8_stale_54 : decode cX8_stale 54 = .ok (.iconst 0, 1) := by decide +kernel
theorem dX8_stale_55 : decode cX8_stale 55 = .ok (.istore_n 2, 1) := by decide +kernel
theorem dX8_stale_56 : decode cX8_stale 56 = .ok (.iinc 3 1, 3) := by decide +kernel
theorem dX8_stale_59 : decode cX8_stale 59 = .ok (.goto (-45), 3) := by decide +kernel
theorem dX8_stale_62 : decode cX8_stale 62 = .ok (.bipush (-6), 2) := by decide +kernel
theorem dX8_stale_64 : decode cX8_stale 64 = .ok (.ireturn, 1) := by decide +kernel
theorem dX8_blame_0 : decode cX8_blame 0 = .ok (.aload_n 0, 1) := by decide +kernel
theorem dX8_blame_1 : decode cX8_blame 1 = .ok (.iload_n 1, 1) := by decide +kernel
theorem dX8_blame_2 : decode cX8_blame 2 = .ok (.invokevirtual 132, 3) := by decide +kernel
theorem dX8_blame_5 : decode cX8_blame 5 = .ok (.ifCond .eq 11, 3) := by decide +kernel
theorem dX8_blame_8 : decode cX8_blame 8 = .ok (.aload_n 0, 1) := by decide +kernel
theorem dX8_blame_9 : decode cX8_blame 9 = .ok (.iload_n 2, 1) := by decide +kernel
theorem dX8_blame_10 : decode cX8_blame 10 = .ok (.invokevirtual 100, 3) := by decide +kernel
theorem dX8_blame_13 : decode cX8_blame 13 = .ok (.ifCond .ne 5, 3) := by decide +kernel
theorem dX8_blame_16 : decode cX8_blame 16 = .ok (.iconst (-1), 1) := by decide +kernel
theorem dX8_blame_17 : decode cX8_blame 17 = .ok (.ireturn, 1) := by decide +kernel
theorem dX8_blame_18 : decode cX8_blame 18 = .ok (.iload_n 2, 1) := by decide +kernel
theorem dX8_blame_19 : decode cX8_blame 19 = .ok (.ifCond .eq 12, 3) := by decide +kernel
theorem dX8_blame_22 : decode cX8_blame 22 = .ok (.aload_n 0, 1) := by decide +kernel
theorem dX8_blame_23 : decode cX8_blame 23 = .ok (.iload_n 1, 1) := by decide +kernel
theorem dX8_blame_24 : decode cX8_blame 24 = .ok (.iload_n 2, 1) := by decide +kernel
theorem dX8_blame_25 : decode cX8_blame 25 = .ok (.invokevirtual 135, 3) := by decide +kernel
theorem dX8_blame_28 : decode cX8_blame 28 = .ok (.ifCond .eq 6, 3) := by decide +kernel
theorem dX8_blame_31 : decode cX8_blame 31 = .ok (.bipush (-3), 2) := by decide +kernel
theorem dX8_blame_33 : decode cX8_blame 33 = .ok (.ireturn, 1) := by decide +kernel
theorem dX8_blame_34 : decode cX8_blame 34 = .ok (.bipush (-6), 2) := by decide +kernel
theorem dX8_blame_36 : decode cX8_blame 36 = .ok (.istore_n 3, 1) := by decide +kernel
theorem dX8_blame_37 : decode cX8_blame 37 = .ok (.iconst 1, 1) := by decide +kernel
theorem dX8_blame_38 : decode cX8_blame 38 = .ok (.istore 4, 2) := by decide +kernel
theorem dX8_blame_40 : decode cX8_blame 40 = .ok (.iload 4, 2) := by decide +kernel
theorem dX8_blame_42 : decode cX8_blame 42 = .ok (.sipush 256, 3) := by decide +kernel
theorem dX8_blame_45 : decode cX8_blame 45 = .ok (.if_icmp .ge 72, 3) := by decide +kernel
theorem dX8_blame_48 : decode cX8_blame 48 = .ok (.iload_n 3, 1) := by decide +kernel
theorem dX8_blame_49 : decode cX8_blame 49 = .ok (.ifCond .lt 15, 3) := by decide +kernel
theorem dX8_blame_52 : decode cX8_blame 52 = .ok (.iload 4, 2) := by decide +kernel
theorem dX8_blame_54 : decode cX8_blame 54 = .ok (.invokestatic 139, 3) := by decide +kernel
theorem dX8_blame_57 : decode cX8_blame 57 = .ok (.iload_n 3, 1) := by decide +kernel
theorem dX8_blame_58 : decode cX8_blame 58 = .ok (.invokestatic 139, 3) := by decide +kernel
theorem dX8_blame_61 : decode cX8_blame 61 = .ok (.if_icmp .ge 50, 3) := by decide +kernel
theorem dX8_blame_64 : decode cX8_blame 64 = .ok (.iconst 0, 1) := by decide +kernel
theorem dX8_blame_65 : decode cX8_blame 65 = .ok (.istore 5, 2) := by decide +kernel
theorem dX8_blame_67 : decode cX8_blame 67 = .ok (.iload 5, 2) := by decide +kernel
theorem dX8_blame_69 : decode cX8_blame 69 = .ok (.bipush 8, 2) := by decide +kernel
theorem dX8_blame_71 : decode cX8_blame 71 = .ok (.if_icmp .ge 25, 3) := by decide +kernel
theorem dX8_blame_74 : decode cX8_blame 74 = .ok (.aload_n 0, 1) := by decide +kernel
theorem dX8_blame_75 : decode cX8_blame 75 = .ok (.getfield 37, 3) := by decide +kernel
theorem dX8_blame_78 : decode cX8_blame 78 = .ok (.iload 5, 2) := by decide +kernel
theorem dX8_blame_80 : decode cX8_blame 80 = .ok (.iload_n 2, 1) := by decide +kernel
theorem dX8_blame_81 : decode cX8_blame 81 = .ok (.iload 4, 2) := by decide +kernel
theorem dX8_blame_83 : decode cX8_blame 83 = .ok (.iload 5, 2) := by decide +kernel
theorem dX8_blame_85 : decode cX8_blame 85 = .ok (.ishr, 1) := by decide +kernel
theorem dX8_blame_86 : decode cX8_blame 86 = .ok (.iconst 1, 1) := by decide +kernel
theorem dX8_blame_87 : decode cX8_blame 87 = .ok (.iand, 1) := by decide +kernel
theorem dX8_blame_88 : decode cX8_blame 88 = .ok (.isub, 1) := by decide +kernel
theorem dX8_blame_89 : decode cX8_blame 89 = .ok (.iastore, 1) := by decide +kernel
theorem dX8_blame_90 : decode cX8_blame 90 = .ok (.iinc 5 1, 3) := by decide +kernel
theorem dX8_blame_93 : decode cX8_blame 93 = .ok (.goto (-26), 3) := by decide +kernel
theorem dX8_blame_96 : decode cX8_blame 96 = .ok (.aload_n 0, 1) := by decide +kernel
theorem dX8_blame_97 : decode cX8_blame 97 = .ok (.iload_n 1, 1) := by decide +kernel
theorem dX8_blame_98 : decode cX8_blame 98 = .ok (.invokevirtual 129, 3) := by decide +kernel
theorem dX8_blame_101 : decode cX8_blame 101 = .ok (.ifCond .eq 8, 3) := by decide +kernel
theorem dX8_blame_104 : decode cX8_blame 104 = .ok (.iload 4, 2) := by decide +kernel
theorem dX8_blame_106 : decode cX8_blame 106 = .ok (.goto 4, 3) := by decide +kernel
theorem dX8_blame_109 : decode cX8_blame 109 = .ok (.iload_n 3, 1) := by decide +kernel
theorem dX8_blame_110 : decode cX8_blame 110 = .ok (.istore_n 3, 1) := by decide +kernel
theorem dX8_blame_111 : decode cX8_blame 111 = .ok (.iinc 4 1, 3) := by decide +kernel
theorem dX8_blame_114 : decode cX8_blame 114 = .ok (.goto (-74), 3) := by decide +kernel
theorem dX8_blame_117 : decode cX8_blame 117 = .ok (.iload_n 3, 1) := by decide +kernel
theorem dX8_blame_118 : decode cX8_blame 118 = .ok (.ifCond .ge 8, 3) := by decide +kernel
theorem dX8_blame_121 : decode cX8_blame 121 = .ok (.bipush (-5), 2) := by decide +kernel
theorem dX8_blame_123 : decode cX8_blame 123 = .ok (.goto 4, 3) := by decide +kernel
theorem dX8_blame_126 : decode cX8_blame 126 = .ok (.iload_n 3, 1) := by decide +kernel
theorem dX8_blame_127 : decode cX8_blame 127 = .ok (.ireturn, 1) := by decide +kernel
theorem dX8_toldBy_0 : decode cX8_toldBy 0 = .ok (.iconst 0, 1) := by decide +kernel
theorem dX8_toldBy_1 : decode cX8_toldBy 1 = .ok (.istore_n 2, 1) := by decide +kernel
theorem dX8_toldBy_2 : decode cX8_toldBy 2 = .ok (.iconst 0, 1) := by decide +kernel
theorem dX8_toldBy_3 : decode cX8_toldBy 3 = .ok (.istore_n 3, 1) := by decide +kernel
theorem dX8_toldBy_4 : decode cX8_toldBy 4 = .ok (.iload_n 3, 1) := by decide +kernel
theorem dX8_toldBy_5 : decode cX8_toldBy 5 = .ok (.aload_n 0, 1) := by decide +kernel
theorem dX8_toldBy_6 : decode cX8_toldBy 6 = .ok (.getfield 70, 3) := by decide +kernel
theorem dX8_toldBy_9 : decode cX8_toldBy 9 = .ok (.if_icmp .ge 42, 3) := by decide +kernel
theorem dX8_toldBy_12 : decode cX8_toldBy 12 = .ok (.iload_n 2, 1) := by decide +kernel
theorem dX8_toldBy_13 : decode cX8_toldBy 13 = .ok (.iload_n 1, 1) := by decide +kernel
theorem dX8_toldBy_14 : decode cX8_toldBy 14 = .ok (.iload_n 3, 1) := by decide +kernel
theorem dX8_toldBy_15 : decode cX8_toldBy 15 = .ok (.ishr, 1) := by decide +kernel
theorem dX8_toldBy_16 : decode cX8_toldBy 16 = .ok (.iconst 1, 1) := by decide +kernel
theorem dX8_toldBy_17 : decode cX8_toldBy 17 = .ok (.iand, 1) := by decide +kernel
theorem dX8_toldBy_18 : decode cX8_toldBy 18 = .ok (.iconst 1, 1) := by decide +kernel
theorem dX8_toldBy_19 : decode cX8_toldBy 19 = .ok (.if_icmp .ne 23, 3) := by decide +kernel
theorem dX8_toldBy_22 : decode cX8_toldBy 22 = .ok (.aload_n 0, 1) := by decide +kernel
theorem dX8_toldBy_23 : decode cX8_toldBy 23 = .ok (.getfield 19, 3) := by decide +kernel
theorem dX8_toldBy_26 : decode cX8_toldBy 26 = .ok (.iload_n 3, 1) := by decide +kernel
theorem dX8_toldBy_27 : decode cX8_toldBy 27 = .ok (.iaload, 1) := by decide +kernel
theorem dX8_toldBy_28 : decode cX8_toldBy 28 = .ok (.ifCond .lt 14, 3) := by decide +kernel
theorem dX8_toldBy_31 : decode cX8_toldBy 31 = .ok (.iconst 1, 1) := by decide +kernel
theorem dX8_toldBy_32 : decode cX8_toldBy 32 = .ok (.aload_n 0, 1) := by decide +kernel
theorem dX8_toldBy_33 : decode cX8_toldBy 33 = .ok (.getfield 19, 3) := by decide +kernel
theorem dX8_toldBy_36 : decode cX8_toldBy 36 = .ok (.iload_n 3, 1) := by decide +kernel
theorem dX8_toldBy_37 : decode cX8_toldBy 37 = .ok (.iaload, 1) := by decide +kernel
theorem dX8_toldBy_38 : decode cX8_toldBy 38 = .ok (.ishl, 1) := by decide +kernel
theorem dX8_toldBy_39 : decode cX8_toldBy 39 = .ok (.goto 4, 3) := by decide +kernel
theorem dX8_toldBy_42 : decode cX8_toldBy 42 = .ok (.iconst 0, 1) := by decide +kernel
theorem dX8_toldBy_43 : decode cX8_toldBy 43 = .ok (.ior, 1) := by decide +kernel
theorem dX8_toldBy_44 : decode cX8_toldBy 44 = .ok (.istore_n 2, 1) := by decide +kernel
theorem dX8_toldBy_45 : decode cX8_toldBy 45 = .ok (.iinc 3 1, 3) := by decide +kernel
theorem dX8_toldBy_48 : decode cX8_toldBy 48 = .ok (.goto (-44), 3) := by decide +kernel
theorem dX8_toldBy_51 : decode cX8_toldBy 51 = .ok (.iload_n 2, 1) := by decide +kernel
theorem dX8_toldBy_52 : decode cX8_toldBy 52 = .ok (.ireturn, 1) := by decide +kernel
theorem dX8_layOrders_0 : decode cX8_layOrders 0 = .ok (.iconst 1, 1) := by decide +kernel
theorem dX8_layOrders_1 : decode cX8_layOrders 1 = .ok (.aload_n 0, 1) := by decide +kernel
theorem dX8_layOrders_2 : decode cX8_layOrders 2 = .ok (.getfield 70, 3) := by decide +kernel
theorem dX8_layOrders_5 : decode cX8_layOrders 5 = .ok (.ishl, 1) := by decide +kernel
theorem dX8_layOrders_6 : decode cX8_layOrders 6 = .ok (.iconst 1, 1) := by decide +kernel
theorem dX8_layOrders_7 : decode cX8_layOrders 7 = .ok (.isub, 1) := by decide +kernel
theorem dX8_layOrders_8 : decode cX8_layOrders 8 = .ok (.istore_n 1, 1) := by decide +kernel
theorem dX8_layOrders_9 : decode cX8_layOrders 9 = .ok (.aload_n 0, 1) := by decide +kernel
theorem dX8_layOrders_10 : decode cX8_layOrders 10 = .ok (.getfield 40, 3) := by decide +kernel
theorem dX8_layOrders_13 : decode cX8_layOrders 13 = .ok (.iload_n 1, 1) := by decide +kernel
theorem dX8_layOrders_14 : decode cX8_layOrders 14 = .ok (.iconst 0, 1) := by decide +kernel
theorem dX8_layOrders_15 : decode cX8_layOrders 15 = .ok (.iastore, 1) := by decide +kernel
theorem dX8_layOrders_16 : decode cX8_layOrders 16 = .ok (.iload_n 1, 1) := by decide +kernel
theorem dX8_layOrders_17 : decode cX8_layOrders 17 = .ok (.iconst 1, 1) := by decide +kernel
theorem dX8_layOrders_18 : decode cX8_layOrders 18 = .ok (.isub, 1) := by decide +kernel
theorem dX8_layOrders_19 : decode cX8_layOrders 19 = .ok (.istore_n 2, 1) := by decide +kernel
theorem dX8_layOrders_20 : decode cX8_layOrders 20 = .ok (.iload_n 2, 1) := by decide +kernel
theorem dX8_layOrders_21 : decode cX8_layOrders 21 = .ok (.ifCond .lt 102, 3) := by decide +kernel
theorem dX8_layOrders_24 : decode cX8_layOrders 24 = .ok (.aload_n 0, 1) := by decide +kernel
theorem dX8_layOrders_25 : decode cX8_layOrders 25 = .ok (.iload_n 2, 1) := by decide +kernel
theorem dX8_layOrders_26 : decode cX8_layOrders 26 = .ok (.invokevirtual 142, 3) := by decide +kernel
theorem dX8_layOrders_29 : decode cX8_layOrders 29 = .ok (.istore_n 3, 1) := by decide +kernel
theorem dX8_layOrders_30 : decode cX8_layOrders 30 = .ok (.bipush (-6), 2) := by decide +kernel
theorem dX8_layOrders_32 : decode cX8_layOrders 32 = .ok (.istore 4, 2) := by decide +kernel
theorem dX8_layOrders_34 : decode cX8_layOrders 34 = .ok (.iconst 0, 1) := by decide +kernel
theorem dX8_layOrders_35 : decode cX8_layOrders 35 = .ok (.istore 5, 2) := by decide +kernel
theorem dX8_layOrders_37 : decode cX8_layOrders 37 = .ok (.iload 5, 2) := by decide +kernel
theorem dX8_layOrders_39 : decode cX8_layOrders 39 = .ok (.aload_n 0, 1) := by decide +kernel
theorem dX8_layOrders_40 : decode cX8_layOrders 40 = .ok (.getfield 70, 3) := by decide +kernel
theorem dX8_layOrders_43 : decode cX8_layOrders 43 = .ok (.if_icmp .ge 66, 3) := by decide +kernel
theorem dX8_layOrders_46 : decode cX8_layOrders 46 = .ok (.iload_n 2, 1) := by decide +kernel
theorem dX8_layOrders_47 : decode cX8_layOrders 47 = .ok (.iload 5, 2) := by decide +kernel
theorem dX8_layOrders_49 : decode cX8_layOrders 49 = .ok (.ishr, 1) := by decide +kernel
theorem dX8_layOrders_50 : decode cX8_layOrders 50 = .ok (.iconst 1, 1) := by decide +kernel
theorem dX8_layOrders_51 : decode cX8_layOrders 51 = .ok (.iand, 1) := by decide +kernel
theorem dX8_layOrders_52 : decode cX8_layOrders 52 = .ok (.ifCond .ne 51, 3) := by decide +kernel
theorem dX8_layOrders_55 : decode cX8_layOrders 55 = .ok (.aload_n 0, 1) := by decide +kernel
theorem dX8_layOrders_56 : decode cX8_layOrders 56 = .ok (.getfield 40, 3) := by decide +kernel
theorem dX8_layOrders_59 : decode cX8_layOrders 59 = .ok (.iload_n 2, 1) := by decide +kernel
theorem dX8_layOrders_60 : decode cX8_layOrders 60 = .ok (.iconst 1, 1) := by decide +kernel
theorem dX8_layOrders_61 : decode cX8_layOrders 61 = .ok (.iload 5, 2) := by decide +kernel
theorem dX8_layOrders_63 : decode cX8_layOrders 63 = .ok (.ishl, 1) := by decide +kernel
theorem dX8_layOrders_64 : decode cX8_layOrders 64 = .ok (.ior, 1) := by decide +kernel
theorem dX8_layOrders_65 : decode cX8_layOrders 65 = .ok (.iaload, 1) := by decide +kernel
theorem dX8_layOrders_66 : decode cX8_layOrders 66 = .ok (.aload_n 0, 1) := by decide +kernel
theorem dX8_layOrders_67 : decode cX8_layOrders 67 = .ok (.iload 5, 2) := by decide +kernel
theorem dX8_layOrders_69 : decode cX8_layOrders 69 = .ok (.invokevirtual 126, 3) := by decide +kernel
theorem dX8_layOrders_72 : decode cX8_layOrders 72 = .ok (.iload_n 3, 1) := by decide +kernel
theorem dX8_layOrders_73 : decode cX8_layOrders 73 = .ok (.iconst (-1), 1) := by decide +kernel
theorem dX8_layOrders_74 : decode cX8_layOrders 74 = .ok (.ixor, 1) := by decide +kernel
theorem dX8_layOrders_75 : decode cX8_layOrders 75 = .ok (.iand, 1) := by decide +kernel
theorem dX8_layOrders_76 : decode cX8_layOrders 76 = .ok (.invokestatic 139, 3) := by decide +kernel
theorem dX8_layOrders_79 : decode cX8_layOrders 79 = .ok (.iadd, 1) := by decide +kernel
theorem dX8_layOrders_80 : decode cX8_layOrders 80 = .ok (.istore 6, 2) := by decide +kernel
theorem dX8_layOrders_82 : decode cX8_layOrders 82 = .ok (.iload 4, 2) := by decide +kernel
theorem dX8_layOrders_84 : decode cX8_layOrders 84 = .ok (.ifCond .lt 10, 3) := by decide +kernel
theorem dX8_layOrders_87 : decode cX8_layOrders 87 = .ok (.iload 6, 2) := by decide +kernel
theorem dX8_layOrders_89 : decode cX8_layOrders 89 = .ok (.iload 4, 2) := by decide +kernel
theorem dX8_layOrders_91 : decode cX8_layOrders 91 = .ok (.if_icmp .ge 8, 3) := by decide +kernel
theorem dX8_layOrders_94 : decode cX8_layOrders 94 = .ok (.iload 6, 2) := by decide +kernel
theorem dX8_layOrders_96 : decode cX8_layOrders 96 = .ok (.goto 5, 3) := by decide +kernel
theorem dX8_layOrders_99 : decode cX8_layOrders 99 = .ok (.iload 4, 2) := by decide +kernel
theorem dX8_layOrders_101 : decode cX8_layOrders 101 = .ok (.istore 4, 2) := by decide +kernel
theorem dX8_layOrders_103 : decode cX8_layOrders 103 = .ok (.iinc 5 1, 3) := by decide +kernel
theorem dX8_layOrders_106 : decode cX8_layOrders 106 = .ok (.goto (-69), 3) := by decide +kernel
theorem dX8_layOrders_109 : decode cX8_layOrders 109 = .ok (.aload_n 0, 1) := by decide +kernel
theorem dX8_layOrders_110 : decode cX8_layOrders 110 = .ok (.getfield 40, 3) := by decide +kernel
theorem dX8_layOrders_113 : decode cX8_layOrders 113 = .ok (.iload_n 2, 1) := by decide +kernel
theorem dX8_layOrders_114 : decode cX8_layOrders 114 = .ok (.iload 4, 2) := by decide +kernel
theorem dX8_layOrders_116 : decode cX8_layOrders 116 = .ok (.iastore, 1) := by decide +kernel
theorem dX8_layOrders_117 : decode cX8_layOrders 117 = .ok (.iinc 2 (-1), 3) := by decide +kernel
theorem dX8_layOrders_120 : decode cX8_layOrders 120 = .ok (.goto (-100), 3) := by decide +kernel
theorem dX8_layOrders_123 : decode cX8_layOrders 123 = .ok (.return_, 1) := by decide +kernel
theorem dX8_order_0 : decode cX8_order 0 = .ok (.iload_n 1, 1) := by decide +kernel
theorem dX8_order_1 : decode cX8_order 1 = .ok (.iconst (-1), 1) := by decide +kernel
theorem dX8_order_2 : decode cX8_order 2 = .ok (.if_icmp .ne 46, 3) := by decide +kernel
theorem dX8_order_5 : decode cX8_order 5 = .ok (.iconst 0, 1) := by decide +kernel
theorem dX8_order_6 : decode cX8_order 6 = .ok (.istore_n 2, 1) := by decide +kernel
theorem dX8_order_7 : decode cX8_order 7 = .ok (.iconst 0, 1) := by decide +kernel
theorem dX8_order_8 : decode cX8_order 8 = .ok (.istore_n 3, 1) := by decide +kernel
theorem dX8_order_9 : decode cX8_order 9 = .ok (.iload_n 3, 1) := by decide +kernel
theorem dX8_order_10 : decode cX8_order 10 = .ok (.aload_n 0, 1) := by decide +kernel
theorem dX8_order_11 : decode cX8_order 11 = .ok (.getfield 70, 3) := by decide +kernel
theorem dX8_order_14 : decode cX8_order 14 = .ok (.if_icmp .ge 32, 3) := by decide +kernel
theorem dX8_order_17 : decode cX8_order 17 = .ok (.iload_n 2, 1) := by decide +kernel
theorem dX8_order_18 : decode cX8_order 18 = .ok (.aload_n 0, 1) := by decide +kernel
theorem dX8_order_19 : decode cX8_order 19 = .ok (.iload_n 3, 1) := by decide +kernel
theorem dX8_order_20 : decode cX8_order 20 = .ok (.invokevirtual 126, 3) := by decide +kernel
theorem dX8_order_23 : decode cX8_order 23 = .ok (.aload_n 0, 1) := by decide +kernel
theorem dX8_order_24 : decode cX8_order 24 = .ok (.iconst 1, 1) := by decide +kernel
theorem dX8_order_25 : decode cX8_order 25 = .ok (.iload_n 3, 1) := by decide +kernel
theorem dX8_order_26 : decode cX8_order 26 = .ok (.ishl, 1) := by decide +kernel
theorem dX8_order_27 : decode cX8_order 27 = .ok (.iconst 1, 1) := by decide +kernel
theorem dX8_order_28 : decode cX8_order 28 = .ok (.isub, 1) := by decide +kernel
theorem dX8_order_29 : decode cX8_order 29 = .ok (.invokevirtual 142, 3) := by decide +kernel
theorem dX8_order_32 : decode cX8_order 32 = .ok (.iconst (-1), 1) := by decide +kernel
theorem dX8_order_33 : decode cX8_order 33 = .ok (.ixor, 1) := by decide +kernel
theorem dX8_order_34 : decode cX8_order 34 = .ok (.iand, 1) := by decide +kernel
theorem dX8_order_35 : decode cX8_order 35 = .ok (.invokestatic 139, 3) := by decide +kernel
theorem dX8_order_38 : decode cX8_order 38 = .ok (.iadd, 1) := by decide +kernel
theorem dX8_order_39 : decode cX8_order 39 = .ok (.istore_n 2, 1) := by decide +kernel
theorem dX8_order_40 : decode cX8_order 40 = .ok (.iinc 3 1, 3) := by decide +kernel
theorem dX8_order_43 : decode cX8_order 43 = .ok (.goto (-34), 3) := by decide +kernel
theorem dX8_order_46 : decode cX8_order 46 = .ok (.iload_n 2, 1) := by decide +kernel
theorem dX8_order_47 : decode cX8_order 47 = .ok (.ireturn, 1) := by decide +kernel
theorem dX8_order_48 : decode cX8_order 48 = .ok (.aload_n 0, 1) := by decide +kernel
theorem dX8_order_49 : decode cX8_order 49 = .ok (.invokevirtual 145, 3) := by decide +kernel
theorem dX8_order_52 : decode cX8_order 52 = .ok (.iload_n 1, 1) := by decide +kernel
theorem dX8_order_53 : decode cX8_order 53 = .ok (.bipush (-2), 2) := by decide +kernel
theorem dX8_order_55 : decode cX8_order 55 = .ok (.if_icmp .ne 10, 3) := by decide +kernel
theorem dX8_order_58 : decode cX8_order 58 = .ok (.aload_n 0, 1) := by decide +kernel
theorem dX8_order_59 : decode cX8_order 59 = .ok (.getfield 40, 3) := by decide +kernel
theorem dX8_order_62 : decode cX8_order 62 = .ok (.iconst 0, 1) := by decide +kernel
theorem dX8_order_63 : decode cX8_order 63 = .ok (.iaload, 1) := by decide +kernel
theorem dX8_order_64 : decode cX8_order 64 = .ok (.ireturn, 1) := by decide +kernel
theorem dX8_order_65 : decode cX8_order 65 = .ok (.iload_n 1, 1) := by decide +kernel
theorem dX8_order_66 : decode cX8_order 66 = .ok (.iconst 0, 1) := by decide +kernel
theorem dX8_order_67 : decode cX8_order 67 = .ok (.aload_n 0, 1) := by decide +kernel
theorem dX8_order_68 : decode cX8_order 68 = .ok (.getfield 70, 3) := by decide +kernel
theorem dX8_order_71 : decode cX8_order 71 = .ok (.iconst 1, 1) := by decide +kernel
theorem dX8_order_72 : decode cX8_order 72 = .ok (.isub, 1) := by decide +kernel
theorem dX8_order_73 : decode cX8_order 73 = .ok (.invokestatic 66, 3) := by decide +kernel
theorem dX8_order_76 : decode cX8_order 76 = .ok (.ifCond .ne 6, 3) := by decide +kernel
theorem dX8_order_79 : decode cX8_order 79 = .ok (.bipush (-6), 2) := by decide +kernel
theorem dX8_order_81 : decode cX8_order 81 = .ok (.ireturn, 1) := by decide +kernel
theorem dX8_order_82 : decode cX8_order 82 = .ok (.iconst 0, 1) := by decide +kernel
theorem dX8_order_83 : decode cX8_order 83 = .ok (.istore_n 2, 1) := by decide +kernel
theorem dX8_order_84 : decode cX8_order 84 = .ok (.bipush (-6), 2) := by decide +kernel
theorem dX8_order_86 : decode cX8_order 86 = .ok (.istore_n 3, 1) := by decide +kernel
theorem dX8_order_87 : decode cX8_order 87 = .ok (.iconst 0, 1) := by decide +kernel
theorem dX8_order_88 : decode cX8_order 88 = .ok (.istore 4, 2) := by decide +kernel
theorem dX8_order_90 : decode cX8_order 90 = .ok (.iload 4, 2) := by decide +kernel
theorem dX8_order_92 : decode cX8_order 92 = .ok (.iload_n 1, 1) := by decide +kernel
theorem dX8_order_93 : decode cX8_order 93 = .ok (.if_icmp .gt 110, 3) := by decide +kernel
theorem dX8_order_96 : decode cX8_order 96 = .ok (.aload_n 0, 1) := by decide +kernel
theorem dX8_order_97 : decode cX8_order 97 = .ok (.iload_n 2, 1) := by decide +kernel
theorem dX8_order_98 : decode cX8_order 98 = .ok (.invokevirtual 142, 3) := by decide +kernel
theorem dX8_order_101 : decode cX8_order 101 = .ok (.istore 5, 2) := by decide +kernel
theorem dX8_order_103 : decode cX8_order 103 = .ok (.bipush (-6), 2) := by decide +kernel
theorem dX8_order_105 : decode cX8_order 105 = .ok (.istore_n 3, 1) := by decide +kernel
theorem dX8_order_106 : decode cX8_order 106 = .ok (.iconst 0, 1) := by decide +kernel
theorem dX8_order_107 : decode cX8_order 107 = .ok (.istore 6, 2) := by decide +kernel
theorem dX8_order_109 : decode cX8_order 109 = .ok (.iload 6, 2) := by decide +kernel
theorem dX8_order_111 : decode cX8_order 111 = .ok (.aload_n 0, 1) := by decide +kernel
theorem dX8_order_112 : decode cX8_order 112 = .ok (.getfield 70, 3) := by decide +kernel
theorem dX8_order_115 : decode cX8_order 115 = .ok (.if_icmp .ge 76, 3) := by decide +kernel
theorem dX8_order_118 : decode cX8_order 118 = .ok (.iload_n 3, 1) := by decide +kernel
theorem dX8_order_119 : decode cX8_order 119 = .ok (.ifCond .ge 72, 3) := by decide +kernel
theorem dX8_order_122 : decode cX8_order 122 = .ok (.iload_n 2, 1) := by decide +kernel
theorem dX8_order_123 : decode cX8_order 123 = .ok (.iload 6, 2) := by decide +kernel
theorem dX8_order_125 : decode cX8_order 125 = .ok (.ishr, 1) := by decide +kernel
theorem dX8_order_126 : decode cX8_order 126 = .ok (.iconst 1, 1) := by decide +kernel
theorem dX8_order_127 : decode cX8_order 127 = .ok (.iand, 1) := by decide +kernel
theorem dX8_order_128 : decode cX8_order 128 = .ok (.ifCond .ne 42, 3) := by decide +kernel
theorem dX8_order_131 : decode cX8_order 131 = .ok (.aload_n 0, 1) := by decide +kernel
theorem dX8_order_132 : decode cX8_order 132 = .ok (.getfield 40, 3) := by decide +kernel
theorem dX8_order_135 : decode cX8_order 135 = .ok (.iload_n 2, 1) := by decide +kernel
theorem dX8_order_136 : decode cX8_order 136 = .ok (.iconst 1, 1) := by decide +kernel
theorem dX8_order_137 : decode cX8_order 137 = .ok (.iload 6, 2) := by decide +kernel
theorem dX8_order_139 : decode cX8_order 139 = .ok (.ishl, 1) := by decide +kernel
theorem dX8_order_140 : decode cX8_order 140 = .ok (.ior, 1) := by decide +kernel
theorem dX8_order_141 : decode cX8_order 141 = .ok (.iaload, 1) := by decide +kernel
theorem dX8_order_142 : decode cX8_order 142 = .ok (.aload_n 0, 1) := by decide +kernel
theorem dX8_order_143 : decode cX8_order 143 = .ok (.iload 6, 2) := by decide +kernel
theorem dX8_order_145 : decode cX8_order 145 = .ok (.invokevirtual 126, 3) := by decide +kernel
theorem dX8_order_148 : decode cX8_order 148 = .ok (.iload 5, 2) := by decide +kernel
theorem dX8_order_150 : decode cX8_order 150 = .ok (.iconst (-1), 1) := by decide +kernel
theorem dX8_order_151 : decode cX8_order 151 = .ok (.ixor, 1) := by decide +kernel
theorem dX8_order_152 : decode cX8_order 152 = .ok (.iand, 1) := by decide +kernel
theorem dX8_order_153 : decode cX8_order 153 = .ok (.invokestatic 139, 3) := by decide +kernel
theorem dX8_order_156 : decode cX8_order 156 = .ok (.iadd, 1) := by decide +kernel
theorem dX8_order_157 : decode cX8_order 157 = .ok (.aload_n 0, 1) := by decide +kernel
theorem dX8_order_158 : decode cX8_order 158 = .ok (.getfield 40, 3) := by decide +kernel
theorem dX8_order_161 : decode cX8_order 161 = .ok (.iload_n 2, 1) := by decide +kernel
theorem dX8_order_162 : decode cX8_order 162 = .ok (.iaload, 1) := by decide +kernel
theorem dX8_order_163 : decode cX8_order 163 = .ok (.if_icmp .ne 7, 3) := by decide +kernel
theorem dX8_order_166 : decode cX8_order 166 = .ok (.iconst 1, 1) := by decide +kernel
theorem dX8_order_167 : decode cX8_order 167 = .ok (.goto 4, 3) := by decide +kernel
theorem dX8_order_170 : decode cX8_order 170 = .ok (.iconst 0, 1) := by decide +kernel
theorem dX8_order_171 : decode cX8_order 171 = .ok (.istore 7, 2) := by decide +kernel
theorem dX8_order_173 : decode cX8_order 173 = .ok (.iload 7, 2) := by decide +kernel
theorem dX8_order_175 : decode cX8_order 175 = .ok (.ifCond .eq 8, 3) := by decide +kernel
theorem dX8_order_178 : decode cX8_order 178 = .ok (.iload 6, 2) := by decide +kernel
theorem dX8_order_180 : decode cX8_order 180 = .ok (.goto 4, 3) := by decide +kernel
theorem dX8_order_183 : decode cX8_order 183 = .ok (.iload_n 3, 1) := by decide +kernel
theorem dX8_order_184 : decode cX8_order 184 = .ok (.istore_n 3, 1) := by decide +kernel
theorem dX8_order_185 : decode cX8_order 185 = .ok (.iinc 6 1, 3) := by decide +kernel
theorem dX8_order_188 : decode cX8_order 188 = .ok (.goto (-79), 3) := by decide +kernel
theorem dX8_order_191 : decode cX8_order 191 = .ok (.iload_n 2, 1) := by decide +kernel
theorem dX8_order_192 : decode cX8_order 192 = .ok (.iconst 1, 1) := by decide +kernel
theorem dX8_order_193 : decode cX8_order 193 = .ok (.iload_n 3, 1) := by decide +kernel
theorem dX8_order_194 : decode cX8_order 194 = .ok (.ishl, 1) := by decide +kernel
theorem dX8_order_195 : decode cX8_order 195 = .ok (.ior, 1) := by decide +kernel
theorem dX8_order_196 : decode cX8_order 196 = .ok (.istore_n 2, 1) := by decide +kernel
theorem dX8_order_197 : decode cX8_order 197 = .ok (.iinc 4 1, 3) := by decide +kernel
theorem dX8_order_200 : decode cX8_order 200 = .ok (.goto (-110), 3) := by decide +kernel
theorem dX8_order_203 : decode cX8_order 203 = .ok (.iload_n 3, 1) := by decide +kernel
theorem dX8_order_204 : decode cX8_order 204 = .ok (.ireturn, 1) := by decide +kernel
theorem dX8_fewest_0 : decode cX8_fewest 0 = .ok (.bipush (-6), 2) := by decide +kernel
theorem dX8_fewest_2 : decode cX8_fewest 2 = .ok (.istore_n 1, 1) := by decide +kernel
theorem dX8_fewest_3 : decode cX8_fewest 3 = .ok (.iconst 0, 1) := by decide +kernel
theorem dX8_fewest_4 : decode cX8_fewest 4 = .ok (.istore_n 2, 1) := by decide +kernel
theorem dX8_fewest_5 : decode cX8_fewest 5 = .ok (.iload_n 2, 1) := by decide +kernel
theorem dX8_fewest_6 : decode cX8_fewest 6 = .ok (.iconst 1, 1) := by decide +kernel
theorem dX8_fewest_7 : decode cX8_fewest 7 = .ok (.aload_n 0, 1) := by decide +kernel
theorem dX8_fewest_8 : decode cX8_fewest 8 = .ok (.getfield 70, 3) := by decide +kernel
theorem dX8_fewest_11 : decode cX8_fewest 11 = .ok (.ishl, 1) := by decide +kernel
theorem dX8_fewest_12 : decode cX8_fewest 12 = .ok (.if_icmp .ge 86, 3) := by decide +kernel
theorem dX8_fewest_15 : decode cX8_fewest 15 = .ok (.iload_n 1, 1) := by decide +kernel
theorem dX8_fewest_16 : decode cX8_fewest 16 = .ok (.ifCond .lt 14, 3) := by decide +kernel
theorem dX8_fewest_19 : decode cX8_fewest 19 = .ok (.iload_n 2, 1) := by decide +kernel
theorem dX8_fewest_20 : decode cX8_fewest 20 = .ok (.invokestatic 139, 3) := by decide +kernel
theorem dX8_fewest_23 : decode cX8_fewest 23 = .ok (.iload_n 1, 1) := by decide +kernel
theorem dX8_fewest_24 : decode cX8_fewest 24 = .ok (.invokestatic 139, 3) := by decide +kernel
theorem dX8_fewest_27 : decode cX8_fewest 27 = .ok (.if_icmp .ge 65, 3) := by decide +kernel
theorem dX8_fewest_30 : decode cX8_fewest 30 = .ok (.iconst 1, 1) := by decide +kernel
theorem dX8_fewest_31 : decode cX8_fewest 31 = .ok (.istore_n 3, 1) := by decide +kernel
theorem dX8_fewest_32 : decode cX8_fewest 32 = .ok (.iconst 0, 1) := by decide +kernel
theorem dX8_fewest_33 : decode cX8_fewest 33 = .ok (.istore 4, 2) := by decide +kernel
theorem dX8_fewest_35 : decode cX8_fewest 35 = .ok (.iload 4, 2) := by decide +kernel
theorem dX8_fewest_37 : decode cX8_fewest 37 = .ok (.aload_n 0, 1) := by decide +kernel
theorem dX8_fewest_38 : decode cX8_fewest 38 = .ok (.getfield 148, 3) := by decide +kernel
theorem dX8_fewest_41 : decode cX8_fewest 41 = .ok (.if_icmp .ge 41, 3) := by decide +kernel
theorem dX8_fewest_44 : decode cX8_fewest 44 = .ok (.iload_n 3, 1) := by decide +kernel
theorem dX8_fewest_45 : decode cX8_fewest 45 = .ok (.ifCond .eq 37, 3) := by decide +kernel
theorem dX8_fewest_48 : decode cX8_fewest 48 = .ok (.aload_n 0, 1) := by decide +kernel
theorem dX8_fewest_49 : decode cX8_fewest 49 = .ok (.getfield 43, 3) := by decide +kernel
theorem dX8_fewest_52 : decode cX8_fewest 52 = .ok (.iload 4, 2) := by decide +kernel
theorem dX8_fewest_54 : decode cX8_fewest 54 = .ok (.iaload, 1) := by decide +kernel
theorem dX8_fewest_55 : decode cX8_fewest 55 = .ok (.ifCond .eq 15, 3) := by decide +kernel
theorem dX8_fewest_58 : decode cX8_fewest 58 = .ok (.aload_n 0, 1) := by decide +kernel
theorem dX8_fewest_59 : decode cX8_fewest 59 = .ok (.getfield 43, 3) := by decide +kernel
theorem dX8_fewest_62 : decode cX8_fewest 62 = .ok (.iload 4, 2) := by decide +kernel
theorem dX8_fewest_64 : decode cX8_fewest 64 = .ok (.iaload, 1) := by decide +kernel
theorem dX8_fewest_65 : decode cX8_fewest 65 = .ok (.iload_n 2, 1) := by decide +kernel
theorem dX8_fewest_66 : decode cX8_fewest 66 = .ok (.iand, 1) := by decide +kernel
theorem dX8_fewest_67 : decode cX8_fewest 67 = .ok (.ifCond .eq 7, 3) := by decide +kernel
theorem dX8_fewest_70 : decode cX8_fewest 70 = .ok (.iconst 1, 1) := by decide +kernel
theorem dX8_fewest_71 : decode cX8_fewest 71 = .ok (.goto 4, 3) := by decide +kernel
theorem dX8_fewest_74 : decode cX8_fewest 74 = .ok (.iconst 0, 1) := by decide +kernel
theorem dX8_fewest_75 : decode cX8_fewest 75 = .ok (.istore_n 3, 1) := by decide +kernel
theorem dX8_fewest_76 : decode cX8_fewest 76 = .ok (.iinc 4 1, 3) := by decide +kernel
theorem dX8_fewest_79 : decode cX8_fewest 79 = .ok (.goto (-44), 3) := by decide +kernel
theorem dX8_fewest_82 : decode cX8_fewest 82 = .ok (.iload_n 3, 1) := by decide +kernel
theorem dX8_fewest_83 : decode cX8_fewest 83 = .ok (.ifCond .eq 7, 3) := by decide +kernel
theorem dX8_fewest_86 : decode cX8_fewest 86 = .ok (.iload_n 2, 1) := by decide +kernel
theorem dX8_fewest_87 : decode cX8_fewest 87 = .ok (.goto 4, 3) := by decide +kernel
theorem dX8_fewest_90 : decode cX8_fewest 90 = .ok (.iload_n 1, 1) := by decide +kernel
theorem dX8_fewest_91 : decode cX8_fewest 91 = .ok (.istore_n 1, 1) := by decide +kernel
theorem dX8_fewest_92 : decode cX8_fewest 92 = .ok (.iinc 2 1, 3) := by decide +kernel
theorem dX8_fewest_95 : decode cX8_fewest 95 = .ok (.goto (-90), 3) := by decide +kernel
theorem dX8_fewest_98 : decode cX8_fewest 98 = .ok (.iload_n 1, 1) := by decide +kernel
theorem dX8_fewest_99 : decode cX8_fewest 99 = .ok (.ireturn, 1) := by decide +kernel
theorem dX8_cover_0 : decode cX8_cover 0 = .ok (.aload_n 0, 1) := by decide +kernel
theorem dX8_cover_1 : decode cX8_cover 1 = .ok (.iload_n 1, 1) := by decide +kernel
theorem dX8_cover_2 : decode cX8_cover 2 = .ok (.invokevirtual 100, 3) := by decide +kernel
theorem dX8_cover_5 : decode cX8_cover 5 = .ok (.ifCond .ne 5, 3) := by decide +kernel
theorem dX8_cover_8 : decode cX8_cover 8 = .ok (.iconst (-1), 1) := by decide +kernel
theorem dX8_cover_9 : decode cX8_cover 9 = .ok (.ireturn, 1) := by decide +kernel
theorem dX8_cover_10 : decode cX8_cover 10 = .ok (.aload_n 0, 1) := by decide +kernel
theorem dX8_cover_11 : decode cX8_cover 11 = .ok (.bipush 8, 2) := by decide +kernel
theorem dX8_cover_13 : decode cX8_cover 13 = .ok (.putfield 148, 3) := by decide +kernel
theorem dX8_cover_16 : decode cX8_cover 16 = .ok (.iconst 0, 1) := by decide +kernel
theorem dX8_cover_17 : decode cX8_cover 17 = .ok (.istore_n 2, 1) := by decide +kernel
theorem dX8_cover_18 : decode cX8_cover 18 = .ok (.iload_n 2, 1) := by decide +kernel
theorem dX8_cover_19 : decode cX8_cover 19 = .ok (.bipush 8, 2) := by decide +kernel
theorem dX8_cover_21 : decode cX8_cover 21 = .ok (.if_icmp .ge 16, 3) := by decide +kernel
theorem dX8_cover_24 : decode cX8_cover 24 = .ok (.aload_n 0, 1) := by decide +kernel
theorem dX8_cover_25 : decode cX8_cover 25 = .ok (.getfield 43, 3) := by decide +kernel
theorem dX8_cover_28 : decode cX8_cover 28 = .ok (.iload_n 2, 1) := by decide +kernel
theorem dX8_cover_29 : decode cX8_cover 29 = .ok (.iconst 0, 1) := by decide +kernel
theorem dX8_cover_30 : decode cX8_cover 30 = .ok (.iastore, 1) := by decide +kernel
theorem dX8_cover_31 : decode cX8_cover 31 = .ok (.iinc 2 1, 3) := by decide +kernel
theorem dX8_cover_34 : decode cX8_cover 34 = .ok (.goto (-16), 3) := by decide +kernel
theorem dX8_cover_37 : decode cX8_cover 37 = .ok (.aload_n 0, 1) := by decide +kernel
theorem dX8_cover_38 : decode cX8_cover 38 = .ok (.iload_n 1, 1) := by decide +kernel
theorem dX8_cover_39 : decode cX8_cover 39 = .ok (.invokevirtual 119, 3) := by decide +kernel
theorem dX8_cover_42 : decode cX8_cover 42 = .ok (.iconst 0, 1) := by decide +kernel
theorem dX8_cover_43 : decode cX8_cover 43 = .ok (.istore_n 2, 1) := by decide +kernel
theorem dX8_cover_44 : decode cX8_cover 44 = .ok (.iload_n 2, 1) := by decide +kernel
theorem dX8_cover_45 : decode cX8_cover 45 = .ok (.aload_n 0, 1) := by decide +kernel
theorem dX8_cover_46 : decode cX8_cover 46 = .ok (.getfield 70, 3) := by decide +kernel
theorem dX8_cover_49 : decode cX8_cover 49 = .ok (.if_icmp .ge 61, 3) := by decide +kernel
theorem dX8_cover_52 : decode cX8_cover 52 = .ok (.aload_n 0, 1) := by decide +kernel
theorem dX8_cover_53 : decode cX8_cover 53 = .ok (.getfield 19, 3) := by decide +kernel
theorem dX8_cover_56 : decode cX8_cover 56 = .ok (.iload_n 2, 1) := by decide +kernel
theorem dX8_cover_57 : decode cX8_cover 57 = .ok (.iaload, 1) := by decide +kernel
theorem dX8_cover_58 : decode cX8_cover 58 = .ok (.ifCond .ge 46, 3) := by decide +kernel
theorem dX8_cover_61 : decode cX8_cover 61 = .ok (.aload_n 0, 1) := by decide +kernel
theorem dX8_cover_62 : decode cX8_cover 62 = .ok (.bipush 48, 2) := by decide +kernel
theorem dX8_cover_64 : decode cX8_cover 64 = .ok (.iload_n 2, 1) := by decide +kernel
theorem dX8_cover_65 : decode cX8_cover 65 = .ok (.iadd, 1) := by decide +kernel
theorem dX8_cover_66 : decode cX8_cover 66 = .ok (.iconst 0, 1) := by decide +kernel
theorem dX8_cover_67 : decode cX8_cover 67 = .ok (.invokevirtual 122, 3) := by decide +kernel
theorem dX8_cover_70 : decode cX8_cover 70 = .ok (.pop, 1) := by decide +kernel
theorem dX8_cover_71 : decode cX8_cover 71 = .ok (.iconst 0, 1) := by decide +kernel
theorem dX8_cover_72 : decode cX8_cover 72 = .ok (.istore_n 3, 1) := by decide +kernel
theorem dX8_cover_73 : decode cX8_cover 73 = .ok (.iload_n 3, 1) := by decide +kernel
theorem dX8_cover_74 : decode cX8_cover 74 = .ok (.bipush 8, 2) := by decide +kernel
theorem dX8_cover_76 : decode cX8_cover 76 = .ok (.if_icmp .ge 28, 3) := by decide +kernel
theorem dX8_cover_79 : decode cX8_cover 79 = .ok (.aload_n 0, 1) := by decide +kernel
theorem dX8_cover_80 : decode cX8_cover 80 = .ok (.getfield 43, 3) := by decide +kernel
theorem dX8_cover_83 : decode cX8_cover 83 = .ok (.iload_n 3, 1) := by decide +kernel
theorem dX8_cover_84 : decode cX8_cover 84 = .ok (.dup2, 1) := by decide +kernel
theorem dX8_cover_85 : decode cX8_cover 85 = .ok (.iaload, 1) := by decide +kernel
theorem dX8_cover_86 : decode cX8_cover 86 = .ok (.aload_n 0, 1) := by decide +kernel
theorem dX8_cover_87 : decode cX8_cover 87 = .ok (.getfield 106, 3) := by decide +kernel
theorem dX8_cover_90 : decode cX8_cover 90 = .ok (.iload_n 3, 1) := by decide +kernel
theorem dX8_cover_91 : decode cX8_cover 91 = .ok (.ishr, 1) := by decide +kernel
theorem dX8_cover_92 : decode cX8_cover 92 = .ok (.iconst 1, 1) := by decide +kernel
theorem dX8_cover_93 : decode cX8_cover 93 = .ok (.iand, 1) := by decide +kernel
theorem dX8_cover_94 : decode cX8_cover 94 = .ok (.iload_n 2, 1) := by decide +kernel
theorem dX8_cover_95 : decode cX8_cover 95 = .ok (.ishl, 1) := by decide +kernel
theorem dX8_cover_96 : decode cX8_cover 96 = .ok (.ior, 1) := by decide +kernel
theorem dX8_cover_97 : decode cX8_cover 97 = .ok (.iastore, 1) := by decide +kernel
theorem dX8_cover_98 : decode cX8_cover 98 = .ok (.iinc 3 1, 3) := by decide +kernel
theorem dX8_cover_101 : decode cX8_cover 101 = .ok (.goto (-28), 3) := by decide +kernel
theorem dX8_cover_104 : decode cX8_cover 104 = .ok (.iinc 2 1, 3) := by decide +kernel
theorem dX8_cover_107 : decode cX8_cover 107 = .ok (.goto (-63), 3) := by decide +kernel
theorem dX8_cover_110 : decode cX8_cover 110 = .ok (.aload_n 0, 1) := by decide +kernel
theorem dX8_cover_111 : decode cX8_cover 111 = .ok (.invokevirtual 151, 3) := by decide +kernel
theorem dX8_cover_114 : decode cX8_cover 114 = .ok (.ireturn, 1) := by decide +kernel
theorem dX8_apart_0 : decode cX8_apart 0 = .ok (.iconst 0, 1) := by decide +kernel
theorem dX8_apart_1 : decode cX8_apart 1 = .ok (.istore_n 1, 1) := by decide +kernel
theorem dX8_apart_2 : decode cX8_apart 2 = .ok (.iload_n 1, 1) := by decide +kernel
theorem dX8_apart_3 : decode cX8_apart 3 = .ok (.aload_n 0, 1) := by decide +kernel
theorem dX8_apart_4 : decode cX8_apart 4 = .ok (.getfield 62, 3) := by decide +kernel
theorem dX8_apart_7 : decode cX8_apart 7 = .ok (.if_icmp .ge 66, 3) := by decide +kernel
theorem dX8_apart_10 : decode cX8_apart 10 = .ok (.aload_n 0, 1) := by decide +kernel
theorem dX8_apart_11 : decode cX8_apart 11 = .ok (.getfield 46, 3) := by decide +kernel
theorem dX8_apart_14 : decode cX8_apart 14 = .ok (.iload_n 1, 1) := by decide +kernel
theorem dX8_apart_15 : decode cX8_apart 15 = .ok (.iconst 0, 1) := by decide +kernel
theorem dX8_apart_16 : decode cX8_apart 16 = .ok (.iastore, 1) := by decide +kernel
theorem dX8_apart_17 : decode cX8_apart 17 = .ok (.iconst 0, 1) := by decide +kernel
theorem dX8_apart_18 : decode cX8_apart 18 = .ok (.istore_n 2, 1) := by decide +kernel
theorem dX8_apart_19 : decode cX8_apart 19 = .ok (.iload_n 2, 1) := by decide +kernel
theorem dX8_apart_20 : decode cX8_apart 20 = .ok (.aload_n 0, 1) := by decide +kernel
theorem dX8_apart_21 : decode cX8_apart 21 = .ok (.getfield 70, 3) := by decide +kernel
theorem dX8_apart_24 : decode cX8_apart 24 = .ok (.if_icmp .ge 43, 3) := by decide +kernel
theorem dX8_apart_27 : decode cX8_apart 27 = .ok (.aload_n 0, 1) := by decide +kernel
theorem dX8_apart_28 : decode cX8_apart 28 = .ok (.getfield 46, 3) := by decide +kernel
theorem dX8_apart_31 : decode cX8_apart 31 = .ok (.iload_n 1, 1) := by decide +kernel
theorem dX8_apart_32 : decode cX8_apart 32 = .ok (.dup2, 1) := by decide +kernel
theorem dX8_apart_33 : decode cX8_apart 33 = .ok (.iaload, 1) := by decide +kernel
theorem dX8_apart_34 : decode cX8_apart 34 = .ok (.aload_n 0, 1) := by decide +kernel
theorem dX8_apart_35 : decode cX8_apart 35 = .ok (.getfield 19, 3) := by decide +kernel
theorem dX8_apart_38 : decode cX8_apart 38 = .ok (.iload_n 2, 1) := by decide +kernel
theorem dX8_apart_39 : decode cX8_apart 39 = .ok (.iaload, 1) := by decide +kernel
theorem dX8_apart_40 : decode cX8_apart 40 = .ok (.ifCond .ge 18, 3) := by decide +kernel
theorem dX8_apart_43 : decode cX8_apart 43 = .ok (.aload_n 0, 1) := by decide +kernel
theorem dX8_apart_44 : decode cX8_apart 44 = .ok (.iload_n 2, 1) := by decide +kernel
theorem dX8_apart_45 : decode cX8_apart 45 = .ok (.iload_n 1, 1) := by decide +kernel
theorem dX8_apart_46 : decode cX8_apart 46 = .ok (.invokevirtual 135, 3) := by decide +kernel
theorem dX8_apart_49 : decode cX8_apart 49 = .ok (.ifCond .eq 9, 3) := by decide +kernel
theorem dX8_apart_52 : decode cX8_apart 52 = .ok (.iconst 1, 1) := by decide +kernel
theorem dX8_apart_53 : decode cX8_apart 53 = .ok (.iload_n 2, 1) := by decide +kernel
theorem dX8_apart_54 : decode cX8_apart 54 = .ok (.ishl, 1) := by decide +kernel
theorem dX8_apart_55 : decode cX8_apart 55 = .ok (.goto 4, 3) := by decide +kernel
theorem dX8_apart_58 : decode cX8_apart 58 = .ok (.iconst 0, 1) := by decide +kernel
theorem dX8_apart_59 : decode cX8_apart 59 = .ok (.ior, 1) := by decide +kernel
theorem dX8_apart_60 : decode cX8_apart 60 = .ok (.iastore, 1) := by decide +kernel
theorem dX8_apart_61 : decode cX8_apart 61 = .ok (.iinc 2 1, 3) := by decide +kernel
theorem dX8_apart_64 : decode cX8_apart 64 = .ok (.goto (-45), 3) := by decide +kernel
theorem dX8_apart_67 : decode cX8_apart 67 = .ok (.iinc 1 1, 3) := by decide +kernel
theorem dX8_apart_70 : decode cX8_apart 70 = .ok (.goto (-68), 3) := by decide +kernel
theorem dX8_apart_73 : decode cX8_apart 73 = .ok (.aload_n 0, 1) := by decide +kernel
theorem dX8_apart_74 : decode cX8_apart 74 = .ok (.iconst 0, 1) := by decide +kernel
theorem dX8_apart_75 : decode cX8_apart 75 = .ok (.putfield 148, 3) := by decide +kernel
theorem dX8_apart_78 : decode cX8_apart 78 = .ok (.iconst 0, 1) := by decide +kernel
theorem dX8_apart_79 : decode cX8_apart 79 = .ok (.istore_n 1, 1) := by decide +kernel
theorem dX8_apart_80 : decode cX8_apart 80 = .ok (.iload_n 1, 1) := by decide +kernel
theorem dX8_apart_81 : decode cX8_apart 81 = .ok (.aload_n 0, 1) := by decide +kernel
theorem dX8_apart_82 : decode cX8_apart 82 = .ok (.getfield 62, 3) := by decide +kernel
theorem dX8_apart_85 : decode cX8_apart 85 = .ok (.if_icmp .ge 54, 3) := by decide +kernel
theorem dX8_apart_88 : decode cX8_apart 88 = .ok (.iconst 0, 1) := by decide +kernel
theorem dX8_apart_89 : decode cX8_apart 89 = .ok (.istore_n 2, 1) := by decide +kernel
theorem dX8_apart_90 : decode cX8_apart 90 = .ok (.iload_n 2, 1) := by decide +kernel
theorem dX8_apart_91 : decode cX8_apart 91 = .ok (.iload_n 1, 1) := by decide +kernel
theorem dX8_apart_92 : decode cX8_apart 92 = .ok (.if_icmp .ge 41, 3) := by decide +kernel
theorem dX8_apart_95 : decode cX8_apart 95 = .ok (.aload_n 0, 1) := by decide +kernel
theorem dX8_apart_96 : decode cX8_apart 96 = .ok (.getfield 43, 3) := by decide +kernel
theorem dX8_apart_99 : decode cX8_apart 99 = .ok (.aload_n 0, 1) := by decide +kernel
theorem dX8_apart_100 : decode cX8_apart 100 = .ok (.getfield 148, 3) := by decide +kernel
theorem dX8_apart_103 : decode cX8_apart 103 = .ok (.aload_n 0, 1) := by decide +kernel
theorem dX8_apart_104 : decode cX8_apart 104 = .ok (.getfield 46, 3) := by decide +kernel
theorem dX8_apart_107 : decode cX8_apart 107 = .ok (.iload_n 2, 1) := by decide +kernel
theorem dX8_apart_108 : decode cX8_apart 108 = .ok (.iaload, 1) := by decide +kernel
theorem dX8_apart_109 : decode cX8_apart 109 = .ok (.aload_n 0, 1) := by decide +kernel
theorem dX8_apart_110 : decode cX8_apart 110 = .ok (.getfield 46, 3) := by decide +kernel
theorem dX8_apart_113 : decode cX8_apart 113 = .ok (.iload_n 1, 1) := by decide +kernel
theorem dX8_apart_114 : decode cX8_apart 114 = .ok (.iaload, 1) := by decide +kernel
theorem dX8_apart_115 : decode cX8_apart 115 = .ok (.ixor, 1) := by decide +kernel
theorem dX8_apart_116 : decode cX8_apart 116 = .ok (.iastore, 1) := by decide +kernel
theorem dX8_apart_117 : decode cX8_apart 117 = .ok (.aload_n 0, 1) := by decide +kernel
theorem dX8_apart_118 : decode cX8_apart 118 = .ok (.dup, 1) := by decide +kernel
theorem dX8_apart_119 : decode cX8_apart 119 = .ok (.getfield 148, 3) := by decide +kernel
theorem dX8_apart_122 : decode cX8_apart 122 = .ok (.iconst 1, 1) := by decide +kernel
theorem dX8_apart_123 : decode cX8_apart 123 = .ok (.iadd, 1) := by decide +kernel
theorem dX8_apart_124 : decode cX8_apart 124 = .ok (.putfield 148, 3) := by decide +kernel
theorem dX8_apart_127 : decode cX8_apart 127 = .ok (.iinc 2 1, 3) := by decide +kernel
theorem dX8_apart_130 : decode cX8_apart 130 = .ok (.goto (-40), 3) := by decide +kernel
theorem dX8_apart_133 : decode cX8_apart 133 = .ok (.iinc 1 1, 3) := by decide +kernel
theorem dX8_apart_136 : decode cX8_apart 136 = .ok (.goto (-56), 3) := by decide +kernel
theorem dX8_apart_139 : decode cX8_apart 139 = .ok (.aload_n 0, 1) := by decide +kernel
theorem dX8_apart_140 : decode cX8_apart 140 = .ok (.invokevirtual 151, 3) := by decide +kernel
theorem dX8_apart_143 : decode cX8_apart 143 = .ok (.ireturn, 1) := by decide +kernel
theorem dX8_slipped_0 : decode cX8_slipped 0 = .ok (.iload_n 0, 1) := by decide +kernel
theorem dX8_slipped_1 : decode cX8_slipped 1 = .ok (.bipush 48, 2) := by decide +kernel
theorem dX8_slipped_3 : decode cX8_slipped 3 = .ok (.bipush 57, 2) := by decide +kernel
theorem dX8_slipped_5 : decode cX8_slipped 5 = .ok (.invokestatic 66, 3) := by decide +kernel
theorem dX8_slipped_8 : decode cX8_slipped 8 = .ok (.ifCond .eq 18, 3) := by decide +kernel
theorem dX8_slipped_11 : decode cX8_slipped 11 = .ok (.iload_n 0, 1) := by decide +kernel
theorem dX8_slipped_12 : decode cX8_slipped 12 = .ok (.bipush 57, 2) := by decide +kernel
theorem dX8_slipped_14 : decode cX8_slipped 14 = .ok (.if_icmp .ne 8, 3) := by decide +kernel
theorem dX8_slipped_17 : decode cX8_slipped 17 = .ok (.bipush 48, 2) := by decide +kernel
theorem dX8_slipped_19 : decode cX8_slipped 19 = .ok (.goto 6, 3) := by decide +kernel
theorem dX8_slipped_22 : decode cX8_slipped 22 = .ok (.iload_n 0, 1) := by decide +kernel
theorem dX8_slipped_23 : decode cX8_slipped 23 = .ok (.iconst 1, 1) := by decide +kernel
theorem dX8_slipped_24 : decode cX8_slipped 24 = .ok (.iadd, 1) := by decide +kernel
theorem dX8_slipped_25 : decode cX8_slipped 25 = .ok (.ireturn, 1) := by decide +kernel
theorem dX8_slipped_26 : decode cX8_slipped 26 = .ok (.iload_n 0, 1) := by decide +kernel
theorem dX8_slipped_27 : decode cX8_slipped 27 = .ok (.bipush 120, 2) := by decide +kernel
theorem dX8_slipped_29 : decode cX8_slipped 29 = .ok (.if_icmp .ne 8, 3) := by decide +kernel
theorem dX8_slipped_32 : decode cX8_slipped 32 = .ok (.bipush 48, 2) := by decide +kernel
theorem dX8_slipped_34 : decode cX8_slipped 34 = .ok (.goto 16, 3) := by decide +kernel
theorem dX8_slipped_37 : decode cX8_slipped 37 = .ok (.iload_n 0, 1) := by decide +kernel
theorem dX8_slipped_38 : decode cX8_slipped 38 = .ok (.bipush 43, 2) := by decide +kernel
theorem dX8_slipped_40 : decode cX8_slipped 40 = .ok (.if_icmp .ne 8, 3) := by decide +kernel
theorem dX8_slipped_43 : decode cX8_slipped 43 = .ok (.bipush 45, 2) := by decide +kernel
theorem dX8_slipped_45 : decode cX8_slipped 45 = .ok (.goto 5, 3) := by decide +kernel
theorem dX8_slipped_48 : decode cX8_slipped 48 = .ok (.bipush 43, 2) := by decide +kernel
theorem dX8_slipped_50 : decode cX8_slipped 50 = .ok (.ireturn, 1) := by decide +kernel
theorem dX8_laySlips_0 : decode cX8_laySlips 0 = .ok (.aload_n 0, 1) := by decide +kernel
theorem dX8_laySlips_1 : decode cX8_laySlips 1 = .ok (.getfield 93, 3) := by decide +kernel
theorem dX8_laySlips_4 : decode cX8_laySlips 4 = .ok (.ifCond .eq 12, 3) := by decide +kernel
theorem dX8_laySlips_7 : decode cX8_laySlips 7 = .ok (.aload_n 0, 1) := by decide +kernel
theorem dX8_laySlips_8 : decode cX8_laySlips 8 = .ok (.getfield 154, 3) := by decide +kernel
theorem dX8_laySlips_11 : decode cX8_laySlips 11 = .ok (.iload_n 1, 1) := by decide +kernel
theorem dX8_laySlips_12 : decode cX8_laySlips 12 = .ok (.if_icmp .ne 4, 3) := by decide +kernel
theorem dX8_laySlips_15 : decode cX8_laySlips 15 = .ok (.return_, 1) := by decide +kernel
theorem dX8_laySlips_16 : decode cX8_laySlips 16 = .ok (.aload_n 0, 1) := by decide +kernel
theorem dX8_laySlips_17 : decode cX8_laySlips 17 = .ok (.iconst 1, 1) := by decide +kernel
theorem dX8_laySlips_18 : decode cX8_laySlips 18 = .ok (.putfield 93, 3) := by decide +kernel
theorem dX8_laySlips_21 : decode cX8_laySlips 21 = .ok (.aload_n 0, 1) := by decide +kernel
theorem dX8_laySlips_22 : decode cX8_laySlips 22 = .ok (.iload_n 1, 1) := by decide +kernel
theorem dX8_laySlips_23 : decode cX8_laySlips 23 = .ok (.putfield 154, 3) := by decide +kernel
theorem dX8_laySlips_26 : decode cX8_laySlips 26 = .ok (.aload_n 0, 1) := by decide +kernel
theorem dX8_laySlips_27 : decode cX8_laySlips 27 = .ok (.iconst 0, 1) := by decide +kernel
theorem dX8_laySlips_28 : decode cX8_laySlips 28 = .ok (.putfield 157, 3) := by decide +kernel
theorem dX8_laySlips_31 : decode cX8_laySlips 31 = .ok (.iconst 0, 1) := by decide +kernel
theorem dX8_laySlips_32 : decode cX8_laySlips 32 = .ok (.istore_n 2, 1) := by decide +kernel
theorem dX8_laySlips_33 : decode cX8_laySlips 33 = .ok (.aload_n 0, 1) := by decide +kernel
theorem dX8_laySlips_34 : decode cX8_laySlips 34 = .ok (.iload_n 1, 1) := by decide +kernel
theorem dX8_laySlips_35 : decode cX8_laySlips 35 = .ok (.invokevirtual 119, 3) := by decide +kernel
theorem dX8_laySlips_38 : decode cX8_laySlips 38 = .ok (.iconst 0, 1) := by decide +kernel
theorem dX8_laySlips_39 : decode cX8_laySlips 39 = .ok (.istore_n 3, 1) := by decide +kernel
theorem dX8_laySlips_40 : decode cX8_laySlips 40 = .ok (.iload_n 3, 1) := by decide +kernel
theorem dX8_laySlips_41 : decode cX8_laySlips 41 = .ok (.aload_n 0, 1) := by decide +kernel
theorem dX8_laySlips_42 : decode cX8_laySlips 42 = .ok (.getfield 70, 3) := by decide +kernel
theorem dX8_laySlips_45 : decode cX8_laySlips 45 = .ok (.if_icmp .ge 36, 3) := by decide +kernel
theorem dX8_laySlips_48 : decode cX8_laySlips 48 = .ok (.iload_n 2, 1) := by decide +kernel
theorem dX8_laySlips_49 : decode cX8_laySlips 49 = .ok (.aload_n 0, 1) := by decide +kernel
theorem dX8_laySlips_50 : decode cX8_laySlips 50 = .ok (.getfield 19, 3) := by decide +kernel
theorem dX8_laySlips_53 : decode cX8_laySlips 53 = .ok (.iload_n 3, 1) := by decide +kernel
theorem dX8_laySlips_54 : decode cX8_laySlips 54 = .ok (.iaload, 1) := by decide +kernel
theorem dX8_laySlips_55 : decode cX8_laySlips 55 = .ok (.ifCond .ge 17, 3) := by decide +kernel
theorem dX8_laySlips_58 : decode cX8_laySlips 58 = .ok (.aload_n 0, 1) := by decide +kernel
theorem dX8_laySlips_59 : decode cX8_laySlips 59 = .ok (.iload_n 3, 1) := by decide +kernel
theorem dX8_laySlips_60 : decode cX8_laySlips 60 = .ok (.invokevirtual 129, 3) := by decide +kernel
theorem dX8_laySlips_63 : decode cX8_laySlips 63 = .ok (.ifCond .eq 9, 3) := by decide +kernel
theorem dX8_laySlips_66 : decode cX8_laySlips 66 = .ok (.iconst 1, 1) := by decide +kernel
theorem dX8_laySlips_67 : decode cX8_laySlips 67 = .ok (.iload_n 3, 1) := by decide +kernel
theorem dX8_laySlips_68 : decode cX8_laySlips 68 = .ok (.ishl, 1) := by decide +kernel
theorem dX8_laySlips_69 : decode cX8_laySlips 69 = .ok (.goto 4, 3) := by decide +kernel
theorem dX8_laySlips_72 : decode cX8_laySlips 72 = .ok (.iconst 0, 1) := by decide +kernel
theorem dX8_laySlips_73 : decode cX8_laySlips 73 = .ok (.ior, 1) := by decide +kernel
theorem dX8_laySlips_74 : decode cX8_laySlips 74 = .ok (.istore_n 2, 1) := by decide +kernel
theorem dX8_laySlips_75 : decode cX8_laySlips 75 = .ok (.iinc 3 1, 3) := by decide +kernel
theorem dX8_laySlips_78 : decode cX8_laySlips 78 = .ok (.goto (-38), 3) := by decide +kernel
theorem dX8_laySlips_81 : decode cX8_laySlips 81 = .ok (.iconst 0, 1) := by decide +kernel
theorem dX8_laySlips_82 : decode cX8_laySlips 82 = .ok (.istore_n 3, 1) := by decide +kernel
theorem dX8_laySlips_83 : decode cX8_laySlips 83 = .ok (.iload_n 3, 1) := by decide +kernel
theorem dX8_laySlips_84 : decode cX8_laySlips 84 = .ok (.bipush 8, 2) := by decide +kernel
theorem dX8_laySlips_86 : decode cX8_laySlips 86 = .ok (.if_icmp .ge 199, 3) := by decide +kernel
theorem dX8_laySlips_89 : decode cX8_laySlips 89 = .ok (.bipush 8, 2) := by decide +kernel
theorem dX8_laySlips_91 : decode cX8_laySlips 91 = .ok (.iload_n 1, 1) := by decide +kernel
theorem dX8_laySlips_92 : decode cX8_laySlips 92 = .ok (.imul, 1) := by decide +kernel
theorem dX8_laySlips_93 : decode cX8_laySlips 93 = .ok (.iload_n 3, 1) := by decide +kernel
theorem dX8_laySlips_94 : decode cX8_laySlips 94 = .ok (.iadd, 1) := by decide +kernel
theorem dX8_laySlips_95 : decode cX8_laySlips 95 = .ok (.istore 4, 2) := by decide +kernel
theorem dX8_laySlips_97 : decode cX8_laySlips 97 = .ok (.iconst 0, 1) := by decide +kernel
theorem dX8_laySlips_98 : decode cX8_laySlips 98 = .ok (.istore 5, 2) := by decide +kernel
theorem dX8_laySlips_100 : decode cX8_laySlips 100 = .ok (.iload 5, 2) := by decide +kernel
theorem dX8_laySlips_102 : decode cX8_laySlips 102 = .ok (.aload_n 0, 1) := by decide +kernel
theorem dX8_laySlips_103 : decode cX8_laySlips 103 = .ok (.getfield 16, 3) := by decide +kernel
theorem dX8_laySlips_106 : decode cX8_laySlips 106 = .ok (.iload 4, 2) := by decide +kernel
theorem dX8_laySlips_108 : decode cX8_laySlips 108 = .ok (.iaload, 1) := by decide +kernel
theorem dX8_laySlips_109 : decode cX8_laySlips 109 = .ok (.if_icmp .ge 170, 3) := by decide +kernel
theorem dX8_laySlips_112 : decode cX8_laySlips 112 = .ok (.aload_n 0, 1) := by decide +kernel
theorem dX8_laySlips_113 : decode cX8_laySlips 113 = .ok (.getfield 7, 3) := by decide +kernel
theorem dX8_laySlips_116 : decode cX8_laySlips 116 = .ok (.bipush 40, 2) := by decide +kernel
theorem dX8_laySlips_118 : decode cX8_laySlips 118 = .ok (.iload 4, 2) := by decide +kernel
theorem dX8_laySlips_120 : decode cX8_laySlips 120 = .ok (.imul, 1) := by decide +kernel
theorem dX8_laySlips_121 : decode cX8_laySlips 121 = .ok (.iload 5, 2) := by decide +kernel
theorem dX8_laySlips_123 : decode cX8_laySlips 123 = .ok (.iadd, 1) := by decide +kernel
theorem dX8_laySlips_124 : decode cX8_laySlips 124 = .ok (.iaload, 1) := by decide +kernel
theorem dX8_laySlips_125 : decode cX8_laySlips 125 = .ok (.istore 6, 2) := by decide +kernel
theorem dX8_laySlips_127 : decode cX8_laySlips 127 = .ok (.iload 6, 2) := by decide +kernel
theorem dX8_laySlips_129 : decode cX8_laySlips 129 = .ok (.bipush 63, 2) := by decide +kernel
theorem dX8_laySlips_131 : decode cX8_laySlips 131 = .ok (.if_icmp .eq 142, 3) := by decide +kernel
theorem dX8_laySlips_134 : decode cX8_laySlips 134 = .ok (.iload 6, 2) := by decide +kernel
theorem dX8_laySlips_136 : decode cX8_laySlips 136 = .ok (.bipush 97, 2) := by decide +kernel
theorem dX8_laySlips_138 : decode cX8_laySlips 138 = .ok (.bipush 104, 2) := by decide +kernel
theorem dX8_laySlips_140 : decode cX8_laySlips 140 = .ok (.invokestatic 66, 3) := by decide +kernel
theorem dX8_laySlips_143 : decode cX8_laySlips 143 = .ok (.ifCond .ne 130, 3) := by decide +kernel
theorem dX8_laySlips_146 : decode cX8_laySlips 146 = .ok (.aload_n 0, 1) := by decide +kernel
theorem dX8_laySlips_147 : decode cX8_laySlips 147 = .ok (.getfield 49, 3) := by decide +kernel
theorem dX8_laySlips_150 : decode cX8_laySlips 150 = .ok (.aload_n 0, 1) := by decide +kernel
theorem dX8_laySlips_151 : decode cX8_laySlips 151 = .ok (.getfield 157, 3) := by decide +kernel
theorem dX8_laySlips_154 : decode cX8_laySlips 154 = .ok (.bipush 40, 2) := by decide +kernel
theorem dX8_laySlips_156 : decode cX8_laySlips 156 = .ok (.iload 4, 2) := by decide +kernel
theorem dX8_laySlips_158 : decode cX8_laySlips 158 = .ok (.imul, 1) := by decide +kernel
theorem dX8_laySlips_159 : decode cX8_laySlips 159 = .ok (.iload 5, 2) := by decide +kernel
theorem dX8_laySlips_161 : decode cX8_laySlips 161 = .ok (.iadd, 1) := by decide +kernel
theorem dX8_laySlips_162 : decode cX8_laySlips 162 = .ok (.iastore, 1) := by decide +kernel
theorem dX8_laySlips_163 : decode cX8_laySlips 163 = .ok (.aload_n 0, 1) := by decide +kernel
theorem dX8_laySlips_164 : decode cX8_laySlips 164 = .ok (.getfield 7, 3) := by decide +kernel
theorem dX8_laySlips_167 : decode cX8_laySlips 167 = .ok (.bipush 40, 2) := by decide +kernel
theorem dX8_laySlips_169 : decode cX8_laySlips 169 = .ok (.iload 4, 2) := by decide +kernel
theorem dX8_laySlips_171 : decode cX8_laySlips 171 = .ok (.imul, 1) := by decide +kernel
theorem dX8_laySlips_172 : decode cX8_laySlips 172 = .ok (.iload 5, 2) := by decide +kernel
theorem dX8_laySlips_174 : decode cX8_laySlips 174 = .ok (.iadd, 1) := by decide +kernel
theorem dX8_laySlips_175 : decode cX8_laySlips 175 = .ok (.iload 6, 2) := by decide +kernel
theorem dX8_laySlips_177 : decode cX8_laySlips 177 = .ok (.invokestatic 160, 3) := by decide +kernel
theorem dX8_laySlips_180 : decode cX8_laySlips 180 = .ok (.iastore, 1) := by decide +kernel
theorem dX8_laySlips_181 : decode cX8_laySlips 181 = .ok (.aload_n 0, 1) := by decide +kernel
theorem dX8_laySlips_182 : decode cX8_laySlips 182 = .ok (.getfield 52, 3) := by decide +kernel
theorem dX8_laySlips_185 : decode cX8_laySlips 185 = .ok (.aload_n 0, 1) := by decide +kernel
theorem dX8_laySlips_186 : decode cX8_laySlips 186 = .ok (.getfield 157, 3) := by decide +kernel
theorem dX8_laySlips_189 : decode cX8_laySlips 189 = .ok (.iconst 0, 1) := by decide +kernel
theorem dX8_laySlips_190 : decode cX8_laySlips 190 = .ok (.iastore, 1) := by decide +kernel
theorem dX8_laySlips_191 : decode cX8_laySlips 191 = .ok (.iconst 0, 1) := by decide +kernel
theorem dX8_laySlips_192 : decode cX8_laySlips 192 = .ok (.istore 7, 2) := by decide +kernel
theorem dX8_laySlips_194 : decode cX8_laySlips 194 = .ok (.iload 7, 2) := by decide +kernel
theorem dX8_laySlips_196 : decode cX8_laySlips 196 = .ok (.aload_n 0, 1) := by decide +kernel
theorem dX8_laySlips_197 : decode cX8_laySlips 197 = .ok (.getfield 70, 3) := by decide +kernel
theorem dX8_laySlips_200 : decode cX8_laySlips 200 = .ok (.if_icmp .ge 48, 3) := by decide +kernel
theorem dX8_laySlips_203 : decode cX8_laySlips 203 = .ok (.aload_n 0, 1) := by decide +kernel
theorem dX8_laySlips_204 : decode cX8_laySlips 204 = .ok (.getfield 52, 3) := by decide +kernel
theorem dX8_laySlips_207 : decode cX8_laySlips 207 = .ok (.aload_n 0, 1) := by decide +kernel
theorem dX8_laySlips_208 : decode cX8_laySlips 208 = .ok (.getfield 157, 3) := by decide +kernel
theorem dX8_laySlips_211 : decode cX8_laySlips 211 = .ok (.dup2, 1) := by decide +kernel
theorem dX8_laySlips_212 : decode cX8_laySlips 212 = .ok (.iaload, 1) := by decide +kernel
theorem dX8_laySlips_213 : decode cX8_laySlips 213 = .ok (.iload_n 2, 1) := by decide +kernel
theorem dX8_laySlips_214 : decode cX8_laySlips 214 = .ok (.iload 7, 2) := by decide +kernel
theorem dX8_laySlips_216 : decode cX8_laySlips 216 = .ok (.ishr, 1) := by decide +kernel
theorem dX8_laySlips_217 : decode cX8_laySlips 217 = .ok (.iconst 1, 1) := by decide +kernel
theorem dX8_laySlips_218 : decode cX8_laySlips 218 = .ok (.iand, 1) := by decide +kernel
theorem dX8_laySlips_219 : decode cX8_laySlips 219 = .ok (.iconst 1, 1) := by decide +kernel
theorem dX8_laySlips_220 : decode cX8_laySlips 220 = .ok (.if_icmp .ne 19, 3) := by decide +kernel
theorem dX8_laySlips_223 : decode cX8_laySlips 223 = .ok (.aload_n 0, 1) := by decide +kernel
theorem dX8_laySlips_224 : decode cX8_laySlips 224 = .ok (.iload 7, 2) := by decide +kernel
theorem dX8_laySlips_226 : decode cX8_laySlips 226 = .ok (.invokevirtual 129, 3) := by decide +kernel
theorem dX8_laySlips_229 : decode cX8_laySlips 229 = .ok (.ifCond .ne 10, 3) := by decide +kernel
theorem dX8_laySlips_232 : decode cX8_laySlips 232 = .ok (.iconst 1, 1) := by decide +kernel
theorem dX8_laySlips_233 : decode cX8_laySlips 233 = .ok (.iload 7, 2) := by decide +kernel
theorem dX8_laySlips_235 : decode cX8_laySlips 235 = .ok (.ishl, 1) := by decide +kernel
theorem dX8_laySlips_236 : decode cX8_laySlips 236 = .ok (.goto 4, 3) := by decide +kernel
theorem dX8_laySlips_239 : decode cX8_laySlips 239 = .ok (.iconst 0, 1) := by decide +kernel
theorem dX8_laySlips_240 : decode cX8_laySlips 240 = .ok (.ior, 1) := by decide +kernel
theorem dX8_laySlips_241 : decode cX8_laySlips 241 = .ok (.iastore, 1) := by decide +kernel
theorem dX8_laySlips_242 : decode cX8_laySlips 242 = .ok (.iinc 7 1, 3) := by decide +kernel
theorem dX8_laySlips_245 : decode cX8_laySlips 245 = .ok (.goto (-51), 3) := by decide +kernel
theorem dX8_laySlips_248 : decode cX8_laySlips 248 = .ok (.aload_n 0, 1) := by decide +kernel
theorem dX8_laySlips_249 : decode cX8_laySlips 249 = .ok (.getfield 7, 3) := by decide +kernel
theorem dX8_laySlips_252 : decode cX8_laySlips 252 = .ok (.bipush 40, 2) := by decide +kernel
theorem dX8_laySlips_254 : decode cX8_laySlips 254 = .ok (.iload 4, 2) := by decide +kernel
theorem dX8_laySlips_256 : decode cX8_laySlips 256 = .ok (.imul, 1) := by decide +kernel
theorem dX8_laySlips_257 : decode cX8_laySlips 257 = .ok (.iload 5, 2) := by decide +kernel
theorem dX8_laySlips_259 : decode cX8_laySlips 259 = .ok (.iadd, 1) := by decide +kernel
theorem dX8_laySlips_260 : decode cX8_laySlips 260 = .ok (.iload 6, 2) := by decide +kernel
theorem dX8_laySlips_262 : decode cX8_laySlips 262 = .ok (.iastore, 1) := by decide +kernel
theorem dX8_laySlips_263 : decode cX8_laySlips 263 = .ok (.aload_n 0, 1) := by decide +kernel
theorem dX8_laySlips_264 : decode cX8_laySlips 264 = .ok (.dup, 1) := by decide +kernel
theorem dX8_laySlips_265 : decode cX8_laySlips 265 = .ok (.getfield 157, 3) := by decide +kernel
theorem dX8_laySlips_268 : decode cX8_laySlips 268 = .ok (.iconst 1, 1) := by decide +kernel
theorem dX8_laySlips_269 : decode cX8_laySlips 269 = .ok (.iadd, 1) := by decide +kernel
theorem dX8_laySlips_270 : decode cX8_laySlips 270 = .ok (.putfield 157, 3) := by decide +kernel
theorem dX8_laySlips_273 : decode cX8_laySlips 273 = .ok (.iinc 5 1, 3) := by decide +kernel
theorem dX8_laySlips_276 : decode cX8_laySlips 276 = .ok (.goto (-176), 3) := by decide +kernel
theorem dX8_laySlips_279 : decode cX8_laySlips 279 = .ok (.iinc 3 1, 3) := by decide +kernel
theorem dX8_laySlips_282 : decode cX8_laySlips 282 = .ok (.goto (-199), 3) := by decide +kernel
theorem dX8_laySlips_285 : decode cX8_laySlips 285 = .ok (.return_, 1) := by decide +kernel
theorem dX8_slip_0 : decode cX8_slip 0 = .ok (.aload_n 0, 1) := by decide +kernel
theorem dX8_slip_1 : decode cX8_slip 1 = .ok (.iload_n 1, 1) := by decide +kernel
theorem dX8_slip_2 : decode cX8_slip 2 = .ok (.invokevirtual 100, 3) := by decide +kernel
theorem dX8_slip_5 : decode cX8_slip 5 = .ok (.ifCond .ne 5, 3) := by decide +kernel
theorem dX8_slip_8 : decode cX8_slip 8 = .ok (.iconst (-1), 1) := by decide +kernel
theorem dX8_slip_9 : decode cX8_slip 9 = .ok (.ireturn, 1) := by decide +kernel
theorem dX8_slip_10 : decode cX8_slip 10 = .ok (.aload_n 0, 1) := by decide +kernel
theorem dX8_slip_11 : decode cX8_slip 11 = .ok (.iload_n 1, 1) := by decide +kernel
theorem dX8_slip_12 : decode cX8_slip 12 = .ok (.invokevirtual 163, 3) := by decide +kernel
theorem dX8_slip_15 : decode cX8_slip 15 = .ok (.iload_n 2, 1) := by decide +kernel
theorem dX8_slip_16 : decode cX8_slip 16 = .ok (.iconst (-1), 1) := by decide +kernel
theorem dX8_slip_17 : decode cX8_slip 17 = .ok (.if_icmp .ne 10, 3) := by decide +kernel
theorem dX8_slip_20 : decode cX8_slip 20 = .ok (.aload_n 0, 1) := by decide +kernel
theorem dX8_slip_21 : decode cX8_slip 21 = .ok (.getfield 157, 3) := by decide +kernel
theorem dX8_slip_24 : decode cX8_slip 24 = .ok (.goto 47, 3) := by decide +kernel
theorem dX8_slip_27 : decode cX8_slip 27 = .ok (.iload_n 2, 1) := by decide +kernel
theorem dX8_slip_28 : decode cX8_slip 28 = .ok (.iconst 0, 1) := by decide +kernel
theorem dX8_slip_29 : decode cX8_slip 29 = .ok (.aload_n 0, 1) := by decide +kernel
theorem dX8_slip_30 : decode cX8_slip 30 = .ok (.getfield 157, 3) := by decide +kernel
theorem dX8_slip_33 : decode cX8_slip 33 = .ok (.iconst 1, 1) := by decide +kernel
theorem dX8_slip_34 : decode cX8_slip 34 = .ok (.isub, 1) := by decide +kernel
theorem dX8_slip_35 : decode cX8_slip 35 = .ok (.invokestatic 66, 3) := by decide +kernel
theorem dX8_slip_38 : decode cX8_slip 38 = .ok (.ifCond .eq 31, 3) := by decide +kernel
theorem dX8_slip_41 : decode cX8_slip 41 = .ok (.bipush 100, 2) := by decide +kernel
theorem dX8_slip_43 : decode cX8_slip 43 = .ok (.aload_n 0, 1) := by decide +kernel
theorem dX8_slip_44 : decode cX8_slip 44 = .ok (.getfield 49, 3) := by decide +kernel
theorem dX8_slip_47 : decode cX8_slip 47 = .ok (.iload_n 2, 1) := by decide +kernel
theorem dX8_slip_48 : decode cX8_slip 48 = .ok (.iaload, 1) := by decide +kernel
theorem dX8_slip_49 : decode cX8_slip 49 = .ok (.bipush 40, 2) := by decide +kernel
theorem dX8_slip_51 : decode cX8_slip 51 = .ok (.idiv, 1) := by decide +kernel
theorem dX8_slip_52 : decode cX8_slip 52 = .ok (.bipush 8, 2) := by decide +kernel
theorem dX8_slip_54 : decode cX8_slip 54 = .ok (.irem, 1) := by decide +kernel
theorem dX8_slip_55 : decode cX8_slip 55 = .ok (.imul, 1) := by decide +kernel
theorem dX8_slip_56 : decode cX8_slip 56 = .ok (.aload_n 0, 1) := by decide +kernel
theorem dX8_slip_57 : decode cX8_slip 57 = .ok (.getfield 49, 3) := by decide +kernel
theorem dX8_slip_60 : decode cX8_slip 60 = .ok (.iload_n 2, 1) := by decide +kernel
theorem dX8_slip_61 : decode cX8_slip 61 = .ok (.iaload, 1) := by decide +kernel
theorem dX8_slip_62 : decode cX8_slip 62 = .ok (.bipush 40, 2) := by decide +kernel
theorem dX8_slip_64 : decode cX8_slip 64 = .ok (.irem, 1) := by decide +kernel
theorem dX8_slip_65 : decode cX8_slip 65 = .ok (.iadd, 1) := by decide +kernel
theorem dX8_slip_66 : decode cX8_slip 66 = .ok (.goto 5, 3) := by decide +kernel
theorem dX8_slip_69 : decode cX8_slip 69 = .ok (.bipush (-6), 2) := by decide +kernel
theorem dX8_slip_71 : decode cX8_slip 71 = .ok (.ireturn, 1) := by decide +kernel
theorem dX8_noticed_0 : decode cX8_noticed 0 = .ok (.aload_n 0, 1) := by decide +kernel
theorem dX8_noticed_1 : decode cX8_noticed 1 = .ok (.iload_n 1, 1) := by decide +kernel
theorem dX8_noticed_2 : decode cX8_noticed 2 = .ok (.invokevirtual 100, 3) := by decide +kernel
theorem dX8_noticed_5 : decode cX8_noticed 5 = .ok (.ifCond .ne 5, 3) := by decide +kernel
theorem dX8_noticed_8 : decode cX8_noticed 8 = .ok (.iconst (-1), 1) := by decide +kernel
theorem dX8_noticed_9 : decode cX8_noticed 9 = .ok (.ireturn, 1) := by decide +kernel
theorem dX8_noticed_10 : decode cX8_noticed 10 = .ok (.aload_n 0, 1) := by decide +kernel
theorem dX8_noticed_11 : decode cX8_noticed 11 = .ok (.iload_n 1, 1) := by decide +kernel
theorem dX8_noticed_12 : decode cX8_noticed 12 = .ok (.invokevirtual 163, 3) := by decide +kernel
theorem dX8_noticed_15 : decode cX8_noticed 15 = .ok (.iload_n 2, 1) := by decide +kernel
theorem dX8_noticed_16 : decode cX8_noticed 16 = .ok (.iconst 0, 1) := by decide +kernel
theorem dX8_noticed_17 : decode cX8_noticed 17 = .ok (.aload_n 0, 1) := by decide +kernel
theorem dX8_noticed_18 : decode cX8_noticed 18 = .ok (.getfield 157, 3) := by decide +kernel
theorem dX8_noticed_21 : decode cX8_noticed 21 = .ok (.iconst 1, 1) := by decide +kernel
theorem dX8_noticed_22 : decode cX8_noticed 22 = .ok (.isub, 1) := by decide +kernel
theorem dX8_noticed_23 : decode cX8_noticed 23 = .ok (.invokestatic 66, 3) := by decide +kernel
theorem dX8_noticed_26 : decode cX8_noticed 26 = .ok (.ifCond .eq 12, 3) := by decide +kernel
theorem dX8_noticed_29 : decode cX8_noticed 29 = .ok (.aload_n 0, 1) := by decide +kernel
theorem dX8_noticed_30 : decode cX8_noticed 30 = .ok (.getfield 52, 3) := by decide +kernel
theorem dX8_noticed_33 : decode cX8_noticed 33 = .ok (.iload_n 2, 1) := by decide +kernel
theorem dX8_noticed_34 : decode cX8_noticed 34 = .ok (.iaload, 1) := by decide +kernel
theorem dX8_noticed_35 : decode cX8_noticed 35 = .ok (.goto 5, 3) := by decide +kernel
theorem dX8_noticed_38 : decode cX8_noticed 38 = .ok (.bipush (-2), 2) := by decide +kernel
theorem dX8_noticed_40 : decode cX8_noticed 40 = .ok (.ireturn, 1) := by decide +kernel
theorem dX8_unshown_0 : decode cX8_unshown 0 = .ok (.aload_n 0, 1) := by decide +kernel
theorem dX8_unshown_1 : decode cX8_unshown 1 = .ok (.iload_n 1, 1) := by decide +kernel
theorem dX8_unshown_2 : decode cX8_unshown 2 = .ok (.invokevirtual 100, 3) := by decide +kernel
theorem dX8_unshown_5 : decode cX8_unshown 5 = .ok (.ifCond .ne 5, 3) := by decide +kernel
theorem dX8_unshown_8 : decode cX8_unshown 8 = .ok (.iconst (-1), 1) := by decide +kernel
theorem dX8_unshown_9 : decode cX8_unshown 9 = .ok (.ireturn, 1) := by decide +kernel
theorem dX8_unshown_10 : decode cX8_unshown 10 = .ok (.aload_n 0, 1) := by decide +kernel
theorem dX8_unshown_11 : decode cX8_unshown 11 = .ok (.iload_n 1, 1) := by decide +kernel
theorem dX8_unshown_12 : decode cX8_unshown 12 = .ok (.invokevirtual 163, 3) := by decide +kernel
theorem dX8_unshown_15 : decode cX8_unshown 15 = .ok (.iconst 0, 1) := by decide +kernel
theorem dX8_unshown_16 : decode cX8_unshown 16 = .ok (.istore_n 3, 1) := by decide +kernel
theorem dX8_unshown_17 : decode cX8_unshown 17 = .ok (.iconst 0, 1) := by decide +kernel
theorem dX8_unshown_18 : decode cX8_unshown 18 = .ok (.istore 4, 2) := by decide +kernel
theorem dX8_unshown_20 : decode cX8_unshown 20 = .ok (.iload 4, 2) := by decide +kernel
theorem dX8_unshown_22 : decode cX8_unshown 22 = .ok (.aload_n 0, 1) := by decide +kernel
theorem dX8_unshown_23 : decode cX8_unshown 23 = .ok (.getfield 157, 3) := by decide +kernel
theorem dX8_unshown_26 : decode cX8_unshown 26 = .ok (.if_icmp .ge 30, 3) := by decide +kernel
theorem dX8_unshown_29 : decode cX8_unshown 29 = .ok (.aload_n 0, 1) := by decide +kernel
theorem dX8_unshown_30 : decode cX8_unshown 30 = .ok (.getfield 52, 3) := by decide +kernel
theorem dX8_unshown_33 : decode cX8_unshown 33 = .ok (.iload 4, 2) := by decide +kernel
theorem dX8_unshown_35 : decode cX8_unshown 35 = .ok (.iaload, 1) := by decide +kernel
theorem dX8_unshown_36 : decode cX8_unshown 36 = .ok (.ifCond .ne 14, 3) := by decide +kernel
theorem dX8_unshown_39 : decode cX8_unshown 39 = .ok (.iload_n 3, 1) := by decide +kernel
theorem dX8_unshown_40 : decode cX8_unshown 40 = .ok (.iload_n 2, 1) := by decide +kernel
theorem dX8_unshown_41 : decode cX8_unshown 41 = .ok (.if_icmp .ne 6, 3) := by decide +kernel
theorem dX8_unshown_44 : decode cX8_unshown 44 = .ok (.iload 4, 2) := by decide +kernel
theorem dX8_unshown_46 : decode cX8_unshown 46 = .ok (.ireturn, 1) := by decide +kernel
theorem dX8_unshown_47 : decode cX8_unshown 47 = .ok (.iinc 3 1, 3) := by decide +kernel
theorem dX8_unshown_50 : decode cX8_unshown 50 = .ok (.iinc 4 1, 3) := by decide +kernel
theorem dX8_unshown_53 : decode cX8_unshown 53 = .ok (.goto (-33), 3) := by decide +kernel
theorem dX8_unshown_56 : decode cX8_unshown 56 = .ok (.iload_n 2, 1) := by decide +kernel
theorem dX8_unshown_57 : decode cX8_unshown 57 = .ok (.iconst (-1), 1) := by decide +kernel
theorem dX8_unshown_58 : decode cX8_unshown 58 = .ok (.if_icmp .ne 7, 3) := by decide +kernel
theorem dX8_unshown_61 : decode cX8_unshown 61 = .ok (.iload_n 3, 1) := by decide +kernel
theorem dX8_unshown_62 : decode cX8_unshown 62 = .ok (.goto 5, 3) := by decide +kernel
theorem dX8_unshown_65 : decode cX8_unshown 65 = .ok (.bipush (-6), 2) := by decide +kernel
theorem dX8_unshown_67 : decode cX8_unshown 67 = .ok (.ireturn, 1) := by decide +kernel
theorem dX8_notice_0 : decode cX8_notice 0 = .ok (.aload_n 0, 1) := by decide +kernel
theorem dX8_notice_1 : decode cX8_notice 1 = .ok (.iload_n 1, 1) := by decide +kernel
theorem dX8_notice_2 : decode cX8_notice 2 = .ok (.invokevirtual 100, 3) := by decide +kernel
theorem dX8_notice_5 : decode cX8_notice 5 = .ok (.ifCond .ne 5, 3) := by decide +kernel
theorem dX8_notice_8 : decode cX8_notice 8 = .ok (.iconst (-1), 1) := by decide +kernel
theorem dX8_notice_9 : decode cX8_notice 9 = .ok (.ireturn, 1) := by decide +kernel
theorem dX8_notice_10 : decode cX8_notice 10 = .ok (.aload_n 0, 1) := by decide +kernel
theorem dX8_notice_11 : decode cX8_notice 11 = .ok (.iload_n 1, 1) := by decide +kernel
theorem dX8_notice_12 : decode cX8_notice 12 = .ok (.invokevirtual 163, 3) := by decide +kernel
theorem dX8_notice_15 : decode cX8_notice 15 = .ok (.aload_n 0, 1) := by decide +kernel
theorem dX8_notice_16 : decode cX8_notice 16 = .ok (.aload_n 0, 1) := by decide +kernel
theorem dX8_notice_17 : decode cX8_notice 17 = .ok (.getfield 157, 3) := by decide +kernel
theorem dX8_notice_20 : decode cX8_notice 20 = .ok (.putfield 148, 3) := by decide +kernel
theorem dX8_notice_23 : decode cX8_notice 23 = .ok (.iconst 0, 1) := by decide +kernel
theorem dX8_notice_24 : decode cX8_notice 24 = .ok (.istore_n 2, 1) := by decide +kernel
theorem dX8_notice_25 : decode cX8_notice 25 = .ok (.iload_n 2, 1) := by decide +kernel
theorem dX8_notice_26 : decode cX8_notice 26 = .ok (.aload_n 0, 1) := by decide +kernel
theorem dX8_notice_27 : decode cX8_notice 27 = .ok (.getfield 157, 3) := by decide +kernel
theorem dX8_notice_30 : decode cX8_notice 30 = .ok (.if_icmp .ge 21, 3) := by decide +kernel
theorem dX8_notice_33 : decode cX8_notice 33 = .ok (.aload_n 0, 1) := by decide +kernel
theorem dX8_notice_34 : decode cX8_notice 34 = .ok (.getfield 43, 3) := by decide +kernel
theorem dX8_notice_37 : decode cX8_notice 37 = .ok (.iload_n 2, 1) := by decide +kernel
theorem dX8_notice_38 : decode cX8_notice 38 = .ok (.aload_n 0, 1) := by decide +kernel
theorem dX8_notice_39 : decode cX8_notice 39 = .ok (.getfield 52, 3) := by decide +kernel
theorem dX8_notice_42 : decode cX8_notice 42 = .ok (.iload_n 2, 1) := by decide +kernel
theorem dX8_notice_43 : decode cX8_notice 43 = .ok (.iaload, 1) := by decide +kernel
theorem dX8_notice_44 : decode cX8_notice 44 = .ok (.iastore, 1) := by decide +kernel
theorem dX8_notice_45 : decode cX8_notice 45 = .ok (.iinc 2 1, 3) := by decide +kernel
theorem dX8_notice_48 : decode cX8_notice 48 = .ok (.goto (-23), 3) := by decide +kernel
theorem dX8_notice_51 : decode cX8_notice 51 = .ok (.aload_n 0, 1) := by decide +kernel
theorem dX8_notice_52 : decode cX8_notice 52 = .ok (.invokevirtual 151, 3) := by decide +kernel
theorem dX8_notice_55 : decode cX8_notice 55 = .ok (.ireturn, 1) := by decide +kernel
theorem dX8_mend_0 : decode cX8_mend 0 = .ok (.aload_n 0, 1) := by decide +kernel
theorem dX8_mend_1 : decode cX8_mend 1 = .ok (.iload_n 1, 1) := by decide +kernel
theorem dX8_mend_2 : decode cX8_mend 2 = .ok (.invokevirtual 132, 3) := by decide +kernel
theorem dX8_mend_5 : decode cX8_mend 5 = .ok (.ifCond .eq 11, 3) := by decide +kernel
theorem dX8_mend_8 : decode cX8_mend 8 = .ok (.aload_n 0, 1) := by decide +kernel
theorem dX8_mend_9 : decode cX8_mend 9 = .ok (.iload_n 2, 1) := by decide +kernel
theorem dX8_mend_10 : decode cX8_mend 10 = .ok (.invokevirtual 100, 3) := by decide +kernel
theorem dX8_mend_13 : decode cX8_mend 13 = .ok (.ifCond .ne 5, 3) := by decide +kernel
theorem dX8_mend_16 : decode cX8_mend 16 = .ok (.iconst (-1), 1) := by decide +kernel
theorem dX8_mend_17 : decode cX8_mend 17 = .ok (.ireturn, 1) := by decide +kernel
theorem dX8_mend_18 : decode cX8_mend 18 = .ok (.aload_n 0, 1) := by decide +kernel
theorem dX8_mend_19 : decode cX8_mend 19 = .ok (.iload_n 2, 1) := by decide +kernel
theorem dX8_mend_20 : decode cX8_mend 20 = .ok (.invokevirtual 119, 3) := by decide +kernel
theorem dX8_mend_23 : decode cX8_mend 23 = .ok (.aload_n 0, 1) := by decide +kernel
theorem dX8_mend_24 : decode cX8_mend 24 = .ok (.bipush 48, 2) := by decide +kernel
theorem dX8_mend_26 : decode cX8_mend 26 = .ok (.iload_n 1, 1) := by decide +kernel
theorem dX8_mend_27 : decode cX8_mend 27 = .ok (.iadd, 1) := by decide +kernel
theorem dX8_mend_28 : decode cX8_mend 28 = .ok (.iconst 0, 1) := by decide +kernel
theorem dX8_mend_29 : decode cX8_mend 29 = .ok (.invokevirtual 122, 3) := by decide +kernel
theorem dX8_mend_32 : decode cX8_mend 32 = .ok (.istore_n 3, 1) := by decide +kernel
theorem dX8_mend_33 : decode cX8_mend 33 = .ok (.iload_n 3, 1) := by decide +kernel
theorem dX8_mend_34 : decode cX8_mend 34 = .ok (.ifCond .ge 6, 3) := by decide +kernel
theorem dX8_mend_37 : decode cX8_mend 37 = .ok (.bipush (-5), 2) := by decide +kernel
theorem dX8_mend_39 : decode cX8_mend 39 = .ok (.ireturn, 1) := by decide +kernel
theorem dX8_mend_40 : decode cX8_mend 40 = .ok (.aload_n 0, 1) := by decide +kernel
theorem dX8_mend_41 : decode cX8_mend 41 = .ok (.getfield 22, 3) := by decide +kernel
theorem dX8_mend_44 : decode cX8_mend 44 = .ok (.iload_n 1, 1) := by decide +kernel
theorem dX8_mend_45 : decode cX8_mend 45 = .ok (.iaload, 1) := by decide +kernel
theorem dX8_mend_46 : decode cX8_mend 46 = .ok (.istore 4, 2) := by decide +kernel
theorem dX8_mend_48 : decode cX8_mend 48 = .ok (.aload_n 0, 1) := by decide +kernel
theorem dX8_mend_49 : decode cX8_mend 49 = .ok (.getfield 22, 3) := by decide +kernel
theorem dX8_mend_52 : decode cX8_mend 52 = .ok (.iload_n 1, 1) := by decide +kernel
theorem dX8_mend_53 : decode cX8_mend 53 = .ok (.iload_n 3, 1) := by decide +kernel
theorem dX8_mend_54 : decode cX8_mend 54 = .ok (.iastore, 1) := by decide +kernel
theorem dX8_mend_55 : decode cX8_mend 55 = .ok (.aload_n 0, 1) := by decide +kernel
theorem dX8_mend_56 : decode cX8_mend 56 = .ok (.iconst 0, 1) := by decide +kernel
theorem dX8_mend_57 : decode cX8_mend 57 = .ok (.putfield 93, 3) := by decide +kernel
theorem dX8_mend_60 : decode cX8_mend 60 = .ok (.iload 4, 2) := by decide +kernel
theorem dX8_mend_62 : decode cX8_mend 62 = .ok (.ireturn, 1) := by decide +kernel
theorem dX8_instead_0 : decode cX8_instead 0 = .ok (.aload_n 0, 1) := by decide +kernel
theorem dX8_instead_1 : decode cX8_instead 1 = .ok (.iload_n 1, 1) := by decide +kernel
theorem dX8_instead_2 : decode cX8_instead 2 = .ok (.invokevirtual 132, 3) := by decide +kernel
theorem dX8_instead_5 : decode cX8_instead 5 = .ok (.ifCond .eq 11, 3) := by decide +kernel
theorem dX8_instead_8 : decode cX8_instead 8 = .ok (.aload_n 0, 1) := by decide +kernel
theorem dX8_instead_9 : decode cX8_instead 9 = .ok (.iload_n 2, 1) := by decide +kernel
theorem dX8_instead_10 : decode cX8_instead 10 = .ok (.invokevirtual 100, 3) := by decide +kernel
theorem dX8_instead_13 : decode cX8_instead 13 = .ok (.ifCond .ne 5, 3) := by decide +kernel
theorem dX8_instead_16 : decode cX8_instead 16 = .ok (.iconst (-1), 1) := by decide +kernel
theorem dX8_instead_17 : decode cX8_instead 17 = .ok (.ireturn, 1) := by decide +kernel
theorem dX8_instead_18 : decode cX8_instead 18 = .ok (.aload_n 0, 1) := by decide +kernel
theorem dX8_instead_19 : decode cX8_instead 19 = .ok (.iload_n 2, 1) := by decide +kernel
theorem dX8_instead_20 : decode cX8_instead 20 = .ok (.invokevirtual 119, 3) := by decide +kernel
theorem dX8_instead_23 : decode cX8_instead 23 = .ok (.bipush (-6), 2) := by decide +kernel
theorem dX8_instead_25 : decode cX8_instead 25 = .ok (.istore_n 3, 1) := by decide +kernel
theorem dX8_instead_26 : decode cX8_instead 26 = .ok (.iconst 0, 1) := by decide +kernel
theorem dX8_instead_27 : decode cX8_instead 27 = .ok (.istore 4, 2) := by decide +kernel
theorem dX8_instead_29 : decode cX8_instead 29 = .ok (.iload 4, 2) := by decide +kernel
theorem dX8_instead_31 : decode cX8_instead 31 = .ok (.aload_n 0, 1) := by decide +kernel
theorem dX8_instead_32 : decode cX8_instead 32 = .ok (.getfield 16, 3) := by decide +kernel
theorem dX8_instead_35 : decode cX8_instead 35 = .ok (.bipush 48, 2) := by decide +kernel
theorem dX8_instead_37 : decode cX8_instead 37 = .ok (.iload_n 1, 1) := by decide +kernel
theorem dX8_instead_38 : decode cX8_instead 38 = .ok (.iadd, 1) := by decide +kernel
theorem dX8_instead_39 : decode cX8_instead 39 = .ok (.iaload, 1) := by decide +kernel
theorem dX8_instead_40 : decode cX8_instead 40 = .ok (.if_icmp .ge 118, 3) := by decide +kernel
theorem dX8_instead_43 : decode cX8_instead 43 = .ok (.iload_n 3, 1) := by decide +kernel
theorem dX8_instead_44 : decode cX8_instead 44 = .ok (.ifCond .ge 114, 3) := by decide +kernel
theorem dX8_instead_47 : decode cX8_instead 47 = .ok (.bipush 40, 2) := by decide +kernel
theorem dX8_instead_49 : decode cX8_instead 49 = .ok (.bipush 48, 2) := by decide +kernel
theorem dX8_instead_51 : decode cX8_instead 51 = .ok (.iload_n 1, 1) := by decide +kernel
theorem dX8_instead_52 : decode cX8_instead 52 = .ok (.iadd, 1) := by decide +kernel
theorem dX8_instead_53 : decode cX8_instead 53 = .ok (.imul, 1) := by decide +kernel
theorem dX8_instead_54 : decode cX8_instead 54 = .ok (.iload 4, 2) := by decide +kernel
theorem dX8_instead_56 : decode cX8_instead 56 = .ok (.iadd, 1) := by decide +kernel
theorem dX8_instead_57 : decode cX8_instead 57 = .ok (.istore 5, 2) := by decide +kernel
theorem dX8_instead_59 : decode cX8_instead 59 = .ok (.aload_n 0, 1) := by decide +kernel
theorem dX8_instead_60 : decode cX8_instead 60 = .ok (.getfield 7, 3) := by decide +kernel
theorem dX8_instead_63 : decode cX8_instead 63 = .ok (.iload 5, 2) := by decide +kernel
theorem dX8_instead_65 : decode cX8_instead 65 = .ok (.iaload, 1) := by decide +kernel
theorem dX8_instead_66 : decode cX8_instead 66 = .ok (.istore 6, 2) := by decide +kernel
theorem dX8_instead_68 : decode cX8_instead 68 = .ok (.iconst 0, 1) := by decide +kernel
theorem dX8_instead_69 : decode cX8_instead 69 = .ok (.istore 7, 2) := by decide +kernel
theorem dX8_instead_71 : decode cX8_instead 71 = .ok (.iload 7, 2) := by decide +kernel
theorem dX8_instead_73 : decode cX8_instead 73 = .ok (.bipush 8, 2) := by decide +kernel
theorem dX8_instead_75 : decode cX8_instead 75 = .ok (.if_icmp .ge 68, 3) := by decide +kernel
theorem dX8_instead_78 : decode cX8_instead 78 = .ok (.iload 6, 2) := by decide +kernel
theorem dX8_instead_80 : decode cX8_instead 80 = .ok (.bipush 97, 2) := by decide +kernel
theorem dX8_instead_82 : decode cX8_instead 82 = .ok (.bipush 104, 2) := by decide +kernel
theorem dX8_instead_84 : decode cX8_instead 84 = .ok (.invokestatic 66, 3) := by decide +kernel
theorem dX8_instead_87 : decode cX8_instead 87 = .ok (.ifCond .eq 56, 3) := by decide +kernel
theorem dX8_instead_90 : decode cX8_instead 90 = .ok (.iload_n 3, 1) := by decide +kernel
theorem dX8_instead_91 : decode cX8_instead 91 = .ok (.ifCond .ge 52, 3) := by decide +kernel
theorem dX8_instead_94 : decode cX8_instead 94 = .ok (.iload 7, 2) := by decide +kernel
theorem dX8_instead_96 : decode cX8_instead 96 = .ok (.iload 6, 2) := by decide +kernel
theorem dX8_instead_98 : decode cX8_instead 98 = .ok (.bipush 97, 2) := by decide +kernel
theorem dX8_instead_100 : decode cX8_instead 100 = .ok (.isub, 1) := by decide +kernel
theorem dX8_instead_101 : decode cX8_instead 101 = .ok (.if_icmp .eq 36, 3) := by decide +kernel
theorem dX8_instead_104 : decode cX8_instead 104 = .ok (.aload_n 0, 1) := by decide +kernel
theorem dX8_instead_105 : decode cX8_instead 105 = .ok (.getfield 7, 3) := by decide +kernel
theorem dX8_instead_108 : decode cX8_instead 108 = .ok (.iload 5, 2) := by decide +kernel
theorem dX8_instead_110 : decode cX8_instead 110 = .ok (.bipush 97, 2) := by decide +kernel
theorem dX8_instead_112 : decode cX8_instead 112 = .ok (.iload 7, 2) := by decide +kernel
theorem dX8_instead_114 : decode cX8_instead 114 = .ok (.iadd, 1) := by decide +kernel
theorem dX8_instead_115 : decode cX8_instead 115 = .ok (.iastore, 1) := by decide +kernel
theorem dX8_instead_116 : decode cX8_instead 116 = .ok (.aload_n 0, 1) := by decide +kernel
theorem dX8_instead_117 : decode cX8_instead 117 = .ok (.iload_n 1, 1) := by decide +kernel
theorem dX8_instead_118 : decode cX8_instead 118 = .ok (.invokevirtual 129, 3) := by decide +kernel
theorem dX8_instead_121 : decode cX8_instead 121 = .ok (.ifCond .eq 14, 3) := by decide +kernel
theorem dX8_instead_124 : decode cX8_instead 124 = .ok (.bipush 10, 2) := by decide +kernel
theorem dX8_instead_126 : decode cX8_instead 126 = .ok (.iload 4, 2) := by decide +kernel
theorem dX8_instead_128 : decode cX8_instead 128 = .ok (.imul, 1) := by decide +kernel
theorem dX8_instead_129 : decode cX8_instead 129 = .ok (.iload 7, 2) := by decide +kernel
theorem dX8_instead_131 : decode cX8_instead 131 = .ok (.iadd, 1) := by decide +kernel
theorem dX8_instead_132 : decode cX8_instead 132 = .ok (.goto 4, 3) := by decide +kernel
theorem dX8_instead_135 : decode cX8_instead 135 = .ok (.iload_n 3, 1) := by decide +kernel
theorem dX8_instead_136 : decode cX8_instead 136 = .ok (.istore_n 3, 1) := by decide +kernel
theorem dX8_instead_137 : decode cX8_instead 137 = .ok (.iinc 7 1, 3) := by decide +kernel
theorem dX8_instead_140 : decode cX8_instead 140 = .ok (.goto (-69), 3) := by decide +kernel
theorem dX8_instead_143 : decode cX8_instead 143 = .ok (.aload_n 0, 1) := by decide +kernel
theorem dX8_instead_144 : decode cX8_instead 144 = .ok (.getfield 7, 3) := by decide +kernel
theorem dX8_instead_147 : decode cX8_instead 147 = .ok (.iload 5, 2) := by decide +kernel
theorem dX8_instead_149 : decode cX8_instead 149 = .ok (.iload 6, 2) := by decide +kernel
theorem dX8_instead_151 : decode cX8_instead 151 = .ok (.iastore, 1) := by decide +kernel
theorem dX8_instead_152 : decode cX8_instead 152 = .ok (.iinc 4 1, 3) := by decide +kernel
theorem dX8_instead_155 : decode cX8_instead 155 = .ok (.goto (-126), 3) := by decide +kernel
theorem dX8_instead_158 : decode cX8_instead 158 = .ok (.iload_n 3, 1) := by decide +kernel
theorem dX8_instead_159 : decode cX8_instead 159 = .ok (.ireturn, 1) := by decide +kernel
theorem dX8_image_0 : decode cX8_image 0 = .ok (.iload_n 1, 1) := by decide +kernel
theorem dX8_image_1 : decode cX8_image 1 = .ok (.iconst 0, 1) := by decide +kernel
theorem dX8_image_2 : decode cX8_image 2 = .ok (.iconst 1, 1) := by decide +kernel
theorem dX8_image_3 : decode cX8_image 3 = .ok (.invokestatic 66, 3) := by decide +kernel
theorem dX8_image_6 : decode cX8_image 6 = .ok (.ifCond .ne 6, 3) := by decide +kernel
theorem dX8_image_9 : decode cX8_image 9 = .ok (.bipush (-2), 2) := by decide +kernel
theorem dX8_image_11 : decode cX8_image 11 = .ok (.ireturn, 1) := by decide +kernel
theorem dX8_image_12 : decode cX8_image 12 = .ok (.sipush 2500, 3) := by decide +kernel
theorem dX8_image_15 : decode cX8_image 15 = .ok (.iload_n 1, 1) := by decide +kernel
theorem dX8_image_16 : decode cX8_image 16 = .ok (.imul, 1) := by decide +kernel
theorem dX8_image_17 : decode cX8_image 17 = .ok (.istore_n 2, 1) := by decide +kernel
theorem dX8_image_18 : decode cX8_image 18 = .ok (.aload_n 0, 1) := by decide +kernel
theorem dX8_image_19 : decode cX8_image 19 = .ok (.getfield 55, 3) := by decide +kernel
theorem dX8_image_22 : decode cX8_image 22 = .ok (.iload_n 2, 1) := by decide +kernel
theorem dX8_image_23 : decode cX8_image 23 = .ok (.aload_n 0, 1) := by decide +kernel
theorem dX8_image_24 : decode cX8_image 24 = .ok (.getfield 62, 3) := by decide +kernel
theorem dX8_image_27 : decode cX8_image 27 = .ok (.iastore, 1) := by decide +kernel
theorem dX8_image_28 : decode cX8_image 28 = .ok (.aload_n 0, 1) := by decide +kernel
theorem dX8_image_29 : decode cX8_image 29 = .ok (.getfield 55, 3) := by decide +kernel
theorem dX8_image_32 : decode cX8_image 32 = .ok (.iload_n 2, 1) := by decide +kernel
theorem dX8_image_33 : decode cX8_image 33 = .ok (.iconst 1, 1) := by decide +kernel
theorem dX8_image_34 : decode cX8_image 34 = .ok (.iadd, 1) := by decide +kernel
theorem dX8_image_35 : decode cX8_image 35 = .ok (.aload_n 0, 1) := by decide +kernel
theorem dX8_image_36 : decode cX8_image 36 = .ok (.getfield 70, 3) := by decide +kernel
theorem dX8_image_39 : decode cX8_image 39 = .ok (.iastore, 1) := by decide +kernel
theorem dX8_image_40 : decode cX8_image 40 = .ok (.iconst 0, 1) := by decide +kernel
theorem dX8_image_41 : decode cX8_image 41 = .ok (.istore_n 3, 1) := by decide +kernel
theorem dX8_image_42 : decode cX8_image 42 = .ok (.iload_n 3, 1) := by decide +kernel
theorem dX8_image_43 : decode cX8_image 43 = .ok (.bipush 60, 2) := by decide +kernel
theorem dX8_image_45 : decode cX8_image 45 = .ok (.if_icmp .ge 25, 3) := by decide +kernel
theorem dX8_image_48 : decode cX8_image 48 = .ok (.aload_n 0, 1) := by decide +kernel
theorem dX8_image_49 : decode cX8_image 49 = .ok (.getfield 55, 3) := by decide +kernel
theorem dX8_image_52 : decode cX8_image 52 = .ok (.iload_n 2, 1) := by decide +kernel
theorem dX8_image_53 : decode cX8_image 53 = .ok (.iconst 2, 1) := by decide +kernel
theorem dX8_image_54 : decode cX8_image 54 = .ok (.iadd, 1) := by decide +kernel
theorem dX8_image_55 : decode cX8_image 55 = .ok (.iload_n 3, 1) := by decide +kernel
theorem dX8_image_56 : decode cX8_image 56 = .ok (.iadd, 1) := by decide +kernel
theorem dX8_image_57 : decode cX8_image 57 = .ok (.aload_n 0, 1) := by decide +kernel
theorem dX8_image_58 : decode cX8_image 58 = .ok (.getfield 16, 3) := by decide +kernel
theorem dX8_image_61 : decode cX8_image 61 = .ok (.iload_n 3, 1) := by decide +kernel
theorem dX8_image_62 : decode cX8_image 62 = .ok (.iaload, 1) := by decide +kernel
theorem dX8_image_63 : decode cX8_image 63 = .ok (.iastore, 1) := by decide +kernel
theorem dX8_image_64 : decode cX8_image 64 = .ok (.iinc 3 1, 3) := by decide +kernel
theorem dX8_image_67 : decode cX8_image 67 = .ok (.goto (-25), 3) := by decide +kernel
theorem dX8_image_70 : decode cX8_image 70 = .ok (.iconst 0, 1) := by decide +kernel
theorem dX8_image_71 : decode cX8_image 71 = .ok (.istore_n 3, 1) := by decide +kernel
theorem dX8_image_72 : decode cX8_image 72 = .ok (.iload_n 3, 1) := by decide +kernel
theorem dX8_image_73 : decode cX8_image 73 = .ok (.bipush 12, 2) := by decide +kernel
theorem dX8_image_75 : decode cX8_image 75 = .ok (.if_icmp .ge 43, 3) := by decide +kernel
theorem dX8_image_78 : decode cX8_image 78 = .ok (.aload_n 0, 1) := by decide +kernel
theorem dX8_image_79 : decode cX8_image 79 = .ok (.getfield 55, 3) := by decide +kernel
theorem dX8_image_82 : decode cX8_image 82 = .ok (.iload_n 2, 1) := by decide +kernel
theorem dX8_image_83 : decode cX8_image 83 = .ok (.bipush 62, 2) := by decide +kernel
theorem dX8_image_85 : decode cX8_image 85 = .ok (.iadd, 1) := by decide +kernel
theorem dX8_image_86 : decode cX8_image 86 = .ok (.iload_n 3, 1) := by decide +kernel
theorem dX8_image_87 : decode cX8_image 87 = .ok (.iadd, 1) := by decide +kernel
theorem dX8_image_88 : decode cX8_image 88 = .ok (.aload_n 0, 1) := by decide +kernel
theorem dX8_image_89 : decode cX8_image 89 = .ok (.getfield 19, 3) := by decide +kernel
theorem dX8_image_92 : decode cX8_image 92 = .ok (.iload_n 3, 1) := by decide +kernel
theorem dX8_image_93 : decode cX8_image 93 = .ok (.iaload, 1) := by decide +kernel
theorem dX8_image_94 : decode cX8_image 94 = .ok (.iastore, 1) := by decide +kernel
theorem dX8_image_95 : decode cX8_image 95 = .ok (.aload_n 0, 1) := by decide +kernel
theorem dX8_image_96 : decode cX8_image 96 = .ok (.getfield 55, 3) := by decide +kernel
theorem dX8_image_99 : decode cX8_image 99 = .ok (.iload_n 2, 1) := by decide +kernel
theorem dX8_image_100 : decode cX8_image 100 = .ok (.bipush 74, 2) := by decide +kernel
theorem dX8_image_102 : decode cX8_image 102 = .ok (.iadd, 1) := by decide +kernel
theorem dX8_image_103 : decode cX8_image 103 = .ok (.iload_n 3, 1) := by decide +kernel
theorem dX8_image_104 : decode cX8_image 104 = .ok (.iadd, 1) := by decide +kernel
theorem dX8_image_105 : decode cX8_image 105 = .ok (.aload_n 0, 1) := by decide +kernel
theorem dX8_image_106 : decode cX8_image 106 = .ok (.getfield 22, 3) := by decide +kernel
theorem dX8_image_109 : decode cX8_image 109 = .ok (.iload_n 3, 1) := by decide +kernel
theorem dX8_image_110 : decode cX8_image 110 = .ok (.iaload, 1) := by decide +kernel
theorem dX8_image_111 : decode cX8_image 111 = .ok (.iastore, 1) := by decide +kernel
theorem dX8_image_112 : decode cX8_image 112 = .ok (.iinc 3 1, 3) := by decide +kernel
theorem dX8_image_115 : decode cX8_image 115 = .ok (.goto (-43), 3) := by decide +kernel
theorem dX8_image_118 : decode cX8_image 118 = .ok (.iconst 0, 1) := by decide +kernel
theorem dX8_image_119 : decode cX8_image 119 = .ok (.istore_n 3, 1) := by decide +kernel
theorem dX8_image_120 : decode cX8_image 120 = .ok (.iload_n 3, 1) := by decide +kernel
theorem dX8_image_121 : decode cX8_image 121 = .ok (.sipush 2400, 3) := by decide +kernel
theorem dX8_image_124 : decode cX8_image 124 = .ok (.if_icmp .ge 26, 3) := by decide +kernel
theorem dX8_image_127 : decode cX8_image 127 = .ok (.aload_n 0, 1) := by decide +kernel
theorem dX8_image_128 : decode cX8_image 128 = .ok (.getfield 55, 3) := by decide +kernel
theorem dX8_image_131 : decode cX8_image 131 = .ok (.iload_n 2, 1) := by decide +kernel
theorem dX8_image_132 : decode cX8_image 132 = .ok (.bipush 86, 2) := by decide +kernel
theorem dX8_image_134 : decode cX8_image 134 = .ok (.iadd, 1) := by decide +kernel
theorem dX8_image_135 : decode cX8_image 135 = .ok (.iload_n 3, 1) := by decide +kernel
theorem dX8_image_136 : decode cX8_image 136 = .ok (.iadd, 1) := by decide +kernel
theorem dX8_image_137 : decode cX8_image 137 = .ok (.aload_n 0, 1) := by decide +kernel
theorem dX8_image_138 : decode cX8_image 138 = .ok (.getfield 7, 3) := by decide +kernel
theorem dX8_image_141 : decode cX8_image 141 = .ok (.iload_n 3, 1) := by decide +kernel
theorem dX8_image_142 : decode cX8_image 142 = .ok (.iaload, 1) := by decide +kernel
theorem dX8_image_143 : decode cX8_image 143 = .ok (.iastore, 1) := by decide +kernel
theorem dX8_image_144 : decode cX8_image 144 = .ok (.iinc 3 1, 3) := by decide +kernel
theorem dX8_image_147 : decode cX8_image 147 = .ok (.goto (-27), 3) := by decide +kernel
theorem dX8_image_150 : decode cX8_image 150 = .ok (.aload_n 0, 1) := by decide +kernel
theorem dX8_image_151 : decode cX8_image 151 = .ok (.getfield 58, 3) := by decide +kernel
theorem dX8_image_154 : decode cX8_image 154 = .ok (.iload_n 1, 1) := by decide +kernel
theorem dX8_image_155 : decode cX8_image 155 = .ok (.iconst 1, 1) := by decide +kernel
theorem dX8_image_156 : decode cX8_image 156 = .ok (.bastore, 1) := by decide +kernel
theorem dX8_image_157 : decode cX8_image 157 = .ok (.iconst 1, 1) := by decide +kernel
theorem dX8_image_158 : decode cX8_image 158 = .ok (.ireturn, 1) := by decide +kernel
theorem dX8_restore_0 : decode cX8_restore 0 = .ok (.iload_n 1, 1) := by decide +kernel
theorem dX8_restore_1 : decode cX8_restore 1 = .ok (.iconst 0, 1) := by decide +kernel
theorem dX8_restore_2 : decode cX8_restore 2 = .ok (.iconst 1, 1) := by decide +kernel
theorem dX8_restore_3 : decode cX8_restore 3 = .ok (.invokestatic 66, 3) := by decide +kernel
theorem dX8_restore_6 : decode cX8_restore 6 = .ok (.ifCond .ne 6, 3) := by decide +kernel
theorem dX8_restore_9 : decode cX8_restore 9 = .ok (.bipush (-2), 2) := by decide +kernel
theorem dX8_restore_11 : decode cX8_restore 11 = .ok (.ireturn, 1) := by decide +kernel
theorem dX8_restore_12 : decode cX8_restore 12 = .ok (.aload_n 0, 1) := by decide +kernel
theorem dX8_restore_13 : decode cX8_restore 13 = .ok (.getfield 58, 3) := by decide +kernel
theorem dX8_restore_16 : decode cX8_restore 16 = .ok (.iload_n 1, 1) := by decide +kernel
theorem dX8_restore_17 : decode cX8_restore 17 = .ok (.baload, 1) := by decide +kernel
theorem dX8_restore_18 : decode cX8_restore 18 = .ok (.ifCond .ne 6, 3) := by decide +kernel
theorem dX8_restore_21 : decode cX8_restore 21 = .ok (.bipush (-3), 2) := by decide +kernel
theorem dX8_restore_23 : decode cX8_restore 23 = .ok (.ireturn, 1) := by decide +kernel
theorem dX8_restore_24 : decode cX8_restore 24 = .ok (.sipush 2500, 3) := by decide +kernel
theorem dX8_restore_27 : decode cX8_restore 27 = .ok (.iload_n 1, 1) := by decide +kernel
theorem dX8_restore_28 : decode cX8_restore 28 = .ok (.imul, 1) := by decide +kernel
theorem dX8_restore_29 : decode cX8_restore 29 = .ok (.istore_n 2, 1) := by decide +kernel
theorem dX8_restore_30 : decode cX8_restore 30 = .ok (.aload_n 0, 1) := by decide +kernel
theorem dX8_restore_31 : decode cX8_restore 31 = .ok (.aload_n 0, 1) := by decide +kernel
theorem dX8_restore_32 : decode cX8_restore 32 = .ok (.getfield 55, 3) := by decide +kernel
theorem dX8_restore_35 : decode cX8_restore 35 = .ok (.iload_n 2, 1) := by decide +kernel
theorem dX8_restore_36 : decode cX8_restore 36 = .ok (.iaload, 1) := by decide +kernel
theorem dX8_restore_37 : decode cX8_restore 37 = .ok (.putfield 62, 3) := by decide +kernel
theorem dX8_restore_40 : decode cX8_restore 40 = .ok (.aload_n 0, 1) := by decide +kernel
theorem dX8_restore_41 : decode cX8_restore 41 = .ok (.aload_n 0, 1) := by decide +kernel
theorem dX8_restore_42 : decode cX8_restore 42 = .ok (.getfield 55, 3) := by decide +kernel
theorem dX8_restore_45 : decode cX8_restore 45 = .ok (.iload_n 2, 1) := by decide +kernel
theorem dX8_restore_46 : decode cX8_restore 46 = .ok (.iconst 1, 1) := by decide +kernel
theorem dX8_restore_47 : decode cX8_restore 47 = .ok (.iadd, 1) := by decide +kernel
theorem dX8_restore_48 : decode cX8_restore 48 = .ok (.iaload, 1) := by decide +kernel
theorem dX8_restore_49 : decode cX8_restore 49 = .ok (.putfield 70, 3) := by decide +kernel
theorem dX8_restore_52 : decode cX8_restore 52 = .ok (.iconst 0, 1) := by decide +kernel
theorem dX8_restore_53 : decode cX8_restore 53 = .ok (.istore_n 3, 1) := by decide +kernel
theorem dX8_restore_54 : decode cX8_restore 54 = .ok (.iload_n 3, 1) := by decide +kernel
theorem dX8_restore_55 : decode cX8_restore 55 = .ok (.bipush 60, 2) := by decide +kernel
theorem dX8_restore_57 : decode cX8_restore 57 = .ok (.if_icmp .ge 25, 3) := by decide +kernel
theorem dX8_restore_60 : decode cX8_restore 60 = .ok (.aload_n 0, 1) := by decide +kernel
theorem dX8_restore_61 : decode cX8_restore 61 = .ok (.getfield 16, 3) := by decide +kernel
theorem dX8_restore_64 : decode cX8_restore 64 = .ok (.iload_n 3, 1) := by decide +kernel
theorem dX8_restore_65 : decode cX8_restore 65 = .ok (.aload_n 0, 1) := by decide +kernel
theorem dX8_restore_66 : decode cX8_restore 66 = .ok (.getfield 55, 3) := by decide +kernel
theorem dX8_restore_69 : decode cX8_restore 69 = .ok (.iload_n 2, 1) := by decide +kernel
theorem dX8_restore_70 : decode cX8_restore 70 = .ok (.iconst 2, 1) := by decide +kernel
theorem dX8_restore_71 : decode cX8_restore 71 = .ok (.iadd, 1) := by decide +kernel
theorem dX8_restore_72 : decode cX8_restore 72 = .ok (.iload_n 3, 1) := by decide +kernel
theorem dX8_restore_73 : decode cX8_restore 73 = .ok (.iadd, 1) := by decide +kernel
theorem dX8_restore_74 : decode cX8_restore 74 = .ok (.iaload, 1) := by decide +kernel
theorem dX8_restore_75 : decode cX8_restore 75 = .ok (.iastore, 1) := by decide +kernel
theorem dX8_restore_76 : decode cX8_restore 76 = .ok (.iinc 3 1, 3) := by decide +kernel
theorem dX8_restore_79 : decode cX8_restore 79 = .ok (.goto (-25), 3) := by decide +kernel
theorem dX8_restore_82 : decode cX8_restore 82 = .ok (.iconst 0, 1) := by decide +kernel
theorem dX8_restore_83 : decode cX8_restore 83 = .ok (.istore_n 3, 1) := by decide +kernel
theorem dX8_restore_84 : decode cX8_restore 84 = .ok (.iload_n 3, 1) := by decide +kernel
theorem dX8_restore_85 : decode cX8_restore 85 = .ok (.bipush 12, 2) := by decide +kernel
theorem dX8_restore_87 : decode cX8_restore 87 = .ok (.if_icmp .ge 43, 3) := by decide +kernel
theorem dX8_restore_90 : decode cX8_restore 90 = .ok (.aload_n 0, 1) := by decide +kernel
theorem dX8_restore_91 : decode cX8_restore 91 = .ok (.getfield 19, 3) := by decide +kernel
theorem dX8_restore_94 : decode cX8_restore 94 = .ok (.iload_n 3, 1) := by decide +kernel
theorem dX8_restore_95 : decode cX8_restore 95 = .ok (.aload_n 0, 1) := by decide +kernel
theorem dX8_restore_96 : decode cX8_restore 96 = .ok (.getfield 55, 3) := by decide +kernel
theorem dX8_restore_99 : decode cX8_restore 99 = .ok (.iload_n 2, 1) := by decide +kernel
theorem dX8_restore_100 : decode cX8_restore 100 = .ok (.bipush 62, 2) := by decide +kernel
theorem dX8_restore_102 : decode cX8_restore 102 = .ok (.iadd, 1) := by decide +kernel
theorem dX8_restore_103 : decode cX8_restore 103 = .ok (.iload_n 3, 1) := by decide +kernel
theorem dX8_restore_104 : decode cX8_restore 104 = .ok (.iadd, 1) := by decide +kernel
theorem dX8_restore_105 : decode cX8_restore 105 = .ok (.iaload, 1) := by decide +kernel
theorem dX8_restore_106 : decode cX8_restore 106 = .ok (.iastore, 1) := by decide +kernel
theorem dX8_restore_107 : decode cX8_restore 107 = .ok (.aload_n 0, 1) := by decide +kernel
theorem dX8_restore_108 : decode cX8_restore 108 = .ok (.getfield 22, 3) := by decide +kernel
theorem dX8_restore_111 : decode cX8_restore 111 = .ok (.iload_n 3, 1) := by decide +kernel
theorem dX8_restore_112 : decode cX8_restore 112 = .ok (.aload_n 0, 1) := by decide +kernel
theorem dX8_restore_113 : decode cX8_restore 113 = .ok (.getfield 55, 3) := by decide +kernel
theorem dX8_restore_116 : decode cX8_restore 116 = .ok (.iload_n 2, 1) := by decide +kernel
theorem dX8_restore_117 : decode cX8_restore 117 = .ok (.bipush 74, 2) := by decide +kernel
theorem dX8_restore_119 : decode cX8_restore 119 = .ok (.iadd, 1) := by decide +kernel
theorem dX8_restore_120 : decode cX8_restore 120 = .ok (.iload_n 3, 1) := by decide +kernel
theorem dX8_restore_121 : decode cX8_restore 121 = .ok (.iadd, 1) := by decide +kernel
theorem dX8_restore_122 : decode cX8_restore 122 = .ok (.iaload, 1) := by decide +kernel
theorem dX8_restore_123 : decode cX8_restore 123 = .ok (.iastore, 1) := by decide +kernel
theorem dX8_restore_124 : decode cX8_restore 124 = .ok (.iinc 3 1, 3) := by decide +kernel
theorem dX8_restore_127 : decode cX8_restore 127 = .ok (.goto (-43), 3) := by decide +kernel
theorem dX8_restore_130 : decode cX8_restore 130 = .ok (.iconst 0, 1) := by decide +kernel
theorem dX8_restore_131 : decode cX8_restore 131 = .ok (.istore_n 3, 1) := by decide +kernel
theorem dX8_restore_132 : decode cX8_restore 132 = .ok (.iload_n 3, 1) := by decide +kernel
theorem dX8_restore_133 : decode cX8_restore 133 = .ok (.sipush 2400, 3) := by decide +kernel
theorem dX8_restore_136 : decode cX8_restore 136 = .ok (.if_icmp .ge 26, 3) := by decide +kernel
theorem dX8_restore_139 : decode cX8_restore 139 = .ok (.aload_n 0, 1) := by decide +kernel
theorem dX8_restore_140 : decode cX8_restore 140 = .ok (.getfield 7, 3) := by decide +kernel
theorem dX8_restore_143 : decode cX8_restore 143 = .ok (.iload_n 3, 1) := by decide +kernel
theorem dX8_restore_144 : decode cX8_restore 144 = .ok (.aload_n 0, 1) := by decide +kernel
theorem dX8_restore_145 : decode cX8_restore 145 = .ok (.getfield 55, 3) := by decide +kernel
theorem dX8_restore_148 : decode cX8_restore 148 = .ok (.iload_n 2, 1) := by decide +kernel
theorem dX8_restore_149 : decode cX8_restore 149 = .ok (.bipush 86, 2) := by decide +kernel
theorem dX8_restore_151 : decode cX8_restore 151 = .ok (.iadd, 1) := by decide +kernel
theorem dX8_restore_152 : decode cX8_restore 152 = .ok (.iload_n 3, 1) := by decide +kernel
theorem dX8_restore_153 : decode cX8_restore 153 = .ok (.iadd, 1) := by decide +kernel
theorem dX8_restore_154 : decode cX8_restore 154 = .ok (.iaload, 1) := by decide +kernel
theorem dX8_restore_155 : decode cX8_restore 155 = .ok (.iastore, 1) := by decide +kernel
theorem dX8_restore_156 : decode cX8_restore 156 = .ok (.iinc 3 1, 3) := by decide +kernel
theorem dX8_restore_159 : decode cX8_restore 159 = .ok (.goto (-27), 3) := by decide +kernel
theorem dX8_restore_162 : decode cX8_restore 162 = .ok (.iconst 0, 1) := by decide +kernel
theorem dX8_restore_163 : decode cX8_restore 163 = .ok (.istore_n 3, 1) := by decide +kernel
theorem dX8_restore_164 : decode cX8_restore 164 = .ok (.iload_n 3, 1) := by decide +kernel
theorem dX8_restore_165 : decode cX8_restore 165 = .ok (.bipush 60, 2) := by decide +kernel
theorem dX8_restore_167 : decode cX8_restore 167 = .ok (.if_icmp .ge 14, 3) := by decide +kernel
theorem dX8_restore_170 : decode cX8_restore 170 = .ok (.aload_n 0, 1) := by decide +kernel
theorem dX8_restore_171 : decode cX8_restore 171 = .ok (.iload_n 3, 1) := by decide +kernel
theorem dX8_restore_172 : decode cX8_restore 172 = .ok (.invokevirtual 85, 3) := by decide +kernel
theorem dX8_restore_175 : decode cX8_restore 175 = .ok (.iinc 3 1, 3) := by decide +kernel
theorem dX8_restore_178 : decode cX8_restore 178 = .ok (.goto (-14), 3) := by decide +kernel
theorem dX8_restore_181 : decode cX8_restore 181 = .ok (.aload_n 0, 1) := by decide +kernel
theorem dX8_restore_182 : decode cX8_restore 182 = .ok (.iconst 0, 1) := by decide +kernel
theorem dX8_restore_183 : decode cX8_restore 183 = .ok (.putfield 93, 3) := by decide +kernel
theorem dX8_restore_186 : decode cX8_restore 186 = .ok (.iconst 1, 1) := by decide +kernel
theorem dX8_restore_187 : decode cX8_restore 187 = .ok (.ireturn, 1) := by decide +kernel
theorem dX8_told_0 : decode cX8_told 0 = .ok (.iconst 0, 1) := by decide +kernel
theorem dX8_told_1 : decode cX8_told 1 = .ok (.istore_n 2, 1) := by decide +kernel
theorem dX8_told_2 : decode cX8_told 2 = .ok (.iconst 0, 1) := by decide +kernel
theorem dX8_told_3 : decode cX8_told 3 = .ok (.istore_n 3, 1) := by decide +kernel
theorem dX8_told_4 : decode cX8_told 4 = .ok (.iload_n 3, 1) := by decide +kernel
theorem dX8_told_5 : decode cX8_told 5 = .ok (.aload_n 0, 1) := by decide +kernel
theorem dX8_told_6 : decode cX8_told 6 = .ok (.getfield 70, 3) := by decide +kernel
theorem dX8_told_9 : decode cX8_told 9 = .ok (.if_icmp .ge 28, 3) := by decide +kernel
theorem dX8_told_12 : decode cX8_told 12 = .ok (.iload_n 2, 1) := by decide +kernel
theorem dX8_told_13 : decode cX8_told 13 = .ok (.aload_n 0, 1) := by decide +kernel
theorem dX8_told_14 : decode cX8_told 14 = .ok (.getfield 19, 3) := by decide +kernel
theorem dX8_told_17 : decode cX8_told 17 = .ok (.iload_n 3, 1) := by decide +kernel
theorem dX8_told_18 : decode cX8_told 18 = .ok (.iaload, 1) := by decide +kernel
theorem dX8_told_19 : decode cX8_told 19 = .ok (.ifCond .ge 9, 3) := by decide +kernel
theorem dX8_told_22 : decode cX8_told 22 = .ok (.iconst 1, 1) := by decide +kernel
theorem dX8_told_23 : decode cX8_told 23 = .ok (.iload_n 3, 1) := by decide +kernel
theorem dX8_told_24 : decode cX8_told 24 = .ok (.ishl, 1) := by decide +kernel
theorem dX8_told_25 : decode cX8_told 25 = .ok (.goto 4, 3) := by decide +kernel
theorem dX8_told_28 : decode cX8_told 28 = .ok (.iconst 0, 1) := by decide +kernel
theorem dX8_told_29 : decode cX8_told 29 = .ok (.ior, 1) := by decide +kernel
theorem dX8_told_30 : decode cX8_told 30 = .ok (.istore_n 2, 1) := by decide +kernel
theorem dX8_told_31 : decode cX8_told 31 = .ok (.iinc 3 1, 3) := by decide +kernel
theorem dX8_told_34 : decode cX8_told 34 = .ok (.goto (-30), 3) := by decide +kernel
theorem dX8_told_37 : decode cX8_told 37 = .ok (.iload_n 1, 1) := by decide +kernel
theorem dX8_told_38 : decode cX8_told 38 = .ok (.ifCond .ne 13, 3) := by decide +kernel
theorem dX8_told_41 : decode cX8_told 41 = .ok (.aload_n 0, 1) := by decide +kernel
theorem dX8_told_42 : decode cX8_told 42 = .ok (.getfield 16, 3) := by decide +kernel
theorem dX8_told_45 : decode cX8_told 45 = .ok (.bipush 60, 2) := by decide +kernel
theorem dX8_told_47 : decode cX8_told 47 = .ok (.iaload, 1) := by decide +kernel
theorem dX8_told_48 : decode cX8_told 48 = .ok (.goto 38, 3) := by decide +kernel
theorem dX8_told_51 : decode cX8_told 51 = .ok (.iload_n 1, 1) := by decide +kernel
theorem dX8_told_52 : decode cX8_told 52 = .ok (.iconst 1, 1) := by decide +kernel
theorem dX8_told_53 : decode cX8_told 53 = .ok (.if_icmp .ne 10, 3) := by decide +kernel
theorem dX8_told_56 : decode cX8_told 56 = .ok (.aload_n 0, 1) := by decide +kernel
theorem dX8_told_57 : decode cX8_told 57 = .ok (.getfield 62, 3) := by decide +kernel
theorem dX8_told_60 : decode cX8_told 60 = .ok (.goto 26, 3) := by decide +kernel
theorem dX8_told_63 : decode cX8_told 63 = .ok (.iload_n 1, 1) := by decide +kernel
theorem dX8_told_64 : decode cX8_told 64 = .ok (.iconst 2, 1) := by decide +kernel
theorem dX8_told_65 : decode cX8_told 65 = .ok (.if_icmp .ne 10, 3) := by decide +kernel
theorem dX8_told_68 : decode cX8_told 68 = .ok (.aload_n 0, 1) := by decide +kernel
theorem dX8_told_69 : decode cX8_told 69 = .ok (.getfield 70, 3) := by decide +kernel
theorem dX8_told_72 : decode cX8_told 72 = .ok (.goto 14, 3) := by decide +kernel
theorem dX8_told_75 : decode cX8_told 75 = .ok (.iload_n 1, 1) := by decide +kernel
theorem dX8_told_76 : decode cX8_told 76 = .ok (.iconst 3, 1) := by decide +kernel
theorem dX8_told_77 : decode cX8_told 77 = .ok (.if_icmp .ne 7, 3) := by decide +kernel
theorem dX8_told_80 : decode cX8_told 80 = .ok (.iload_n 2, 1) := by decide +kernel
theorem dX8_told_81 : decode cX8_told 81 = .ok (.goto 5, 3) := by decide +kernel
theorem dX8_told_84 : decode cX8_told 84 = .ok (.bipush (-2), 2) := by decide +kernel
theorem dX8_told_86 : decode cX8_told 86 = .ok (.ireturn, 1) := by decide +kernel
