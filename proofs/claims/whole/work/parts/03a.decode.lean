theorem dX0_init_0 : decode cX0_init 0 = .ok (.aload_n 0, 1) := by decide +kernel
theorem dX0_init_1 : decode cX0_init 1 = .ok (.invokespecial 3, 3) := by decide +kernel
theorem dX0_init_4 : decode cX0_init 4 = .ok (.aload_n 0, 1) := by decide +kernel
theorem dX0_init_5 : decode cX0_init 5 = .ok (.aload_n 1, 1) := by decide +kernel
theorem dX0_init_6 : decode cX0_init 6 = .ok (.putfield 9, 3) := by decide +kernel
theorem dX0_init_9 : decode cX0_init 9 = .ok (.aload_n 0, 1) := by decide +kernel
theorem dX0_init_10 : decode cX0_init 10 = .ok (.bipush 48, 2) := by decide +kernel
theorem dX0_init_12 : decode cX0_init 12 = .ok (.anewarray 15, 3) := by decide +kernel
theorem dX0_init_15 : decode cX0_init 15 = .ok (.putfield 17, 3) := by decide +kernel
theorem dX0_init_18 : decode cX0_init 18 = .ok (.iconst 0, 1) := by decide +kernel
theorem dX0_init_19 : decode cX0_init 19 = .ok (.istore_n 2, 1) := by decide +kernel
theorem dX0_init_20 : decode cX0_init 20 = .ok (.iload_n 2, 1) := by decide +kernel
theorem dX0_init_21 : decode cX0_init 21 = .ok (.bipush 48, 2) := by decide +kernel
theorem dX0_init_23 : decode cX0_init 23 = .ok (.if_icmp .ge 16, 3) := by decide +kernel
theorem dX0_init_26 : decode cX0_init 26 = .ok (.aload_n 0, 1) := by decide +kernel
theorem dX0_init_27 : decode cX0_init 27 = .ok (.getfield 17, 3) := by decide +kernel
theorem dX0_init_30 : decode cX0_init 30 = .ok (.iload_n 2, 1) := by decide +kernel
theorem dX0_init_31 : decode cX0_init 31 = .ok (.aload_n 1, 1) := by decide +kernel
theorem dX0_init_32 : decode cX0_init 32 = .ok (.aastore, 1) := by decide +kernel
theorem dX0_init_33 : decode cX0_init 33 = .ok (.iinc 2 1, 3) := by decide +kernel
theorem dX0_init_36 : decode cX0_init 36 = .ok (.goto (-16), 3) := by decide +kernel
theorem dX0_init_39 : decode cX0_init 39 = .ok (.aload_n 0, 1) := by decide +kernel
theorem dX0_init_40 : decode cX0_init 40 = .ok (.bipush 12, 2) := by decide +kernel
theorem dX0_init_42 : decode cX0_init 42 = .ok (.newarray .int, 2) := by decide +kernel
theorem dX0_init_44 : decode cX0_init 44 = .ok (.putfield 21, 3) := by decide +kernel
theorem dX0_init_47 : decode cX0_init 47 = .ok (.aload_n 0, 1) := by decide +kernel
theorem dX0_init_48 : decode cX0_init 48 = .ok (.bipush 12, 2) := by decide +kernel
theorem dX0_init_50 : decode cX0_init 50 = .ok (.anewarray 15, 3) := by decide +kernel
theorem dX0_init_53 : decode cX0_init 53 = .ok (.putfield 25, 3) := by decide +kernel
theorem dX0_init_56 : decode cX0_init 56 = .ok (.iconst 0, 1) := by decide +kernel
theorem dX0_init_57 : decode cX0_init 57 = .ok (.istore_n 2, 1) := by decide +kernel
theorem dX0_init_58 : decode cX0_init 58 = .ok (.iload_n 2, 1) := by decide +kernel
theorem dX0_init_59 : decode cX0_init 59 = .ok (.bipush 12, 2) := by decide +kernel
theorem dX0_init_61 : decode cX0_init 61 = .ok (.if_icmp .ge 16, 3) := by decide +kernel
theorem dX0_init_64 : decode cX0_init 64 = .ok (.aload_n 0, 1) := by decide +kernel
theorem dX0_init_65 : decode cX0_init 65 = .ok (.getfield 25, 3) := by decide +kernel
theorem dX0_init_68 : decode cX0_init 68 = .ok (.iload_n 2, 1) := by decide +kernel
theorem dX0_init_69 : decode cX0_init 69 = .ok (.aload_n 1, 1) := by decide +kernel
theorem dX0_init_70 : decode cX0_init 70 = .ok (.aastore, 1) := by decide +kernel
theorem dX0_init_71 : decode cX0_init 71 = .ok (.iinc 2 1, 3) := by decide +kernel
theorem dX0_init_74 : decode cX0_init 74 = .ok (.goto (-16), 3) := by decide +kernel
theorem dX0_init_77 : decode cX0_init 77 = .ok (.aload_n 0, 1) := by decide +kernel
theorem dX0_init_78 : decode cX0_init 78 = .ok (.bipush 12, 2) := by decide +kernel
theorem dX0_init_80 : decode cX0_init 80 = .ok (.newarray .int, 2) := by decide +kernel
theorem dX0_init_82 : decode cX0_init 82 = .ok (.putfield 28, 3) := by decide +kernel
theorem dX0_init_85 : decode cX0_init 85 = .ok (.aload_n 0, 1) := by decide +kernel
theorem dX0_init_86 : decode cX0_init 86 = .ok (.bipush 12, 2) := by decide +kernel
theorem dX0_init_88 : decode cX0_init 88 = .ok (.newarray .int, 2) := by decide +kernel
theorem dX0_init_90 : decode cX0_init 90 = .ok (.putfield 31, 3) := by decide +kernel
theorem dX0_init_93 : decode cX0_init 93 = .ok (.aload_n 0, 1) := by decide +kernel
theorem dX0_init_94 : decode cX0_init 94 = .ok (.iconst 1, 1) := by decide +kernel
theorem dX0_init_95 : decode cX0_init 95 = .ok (.putfield 34, 3) := by decide +kernel
theorem dX0_init_98 : decode cX0_init 98 = .ok (.aload_n 0, 1) := by decide +kernel
theorem dX0_init_99 : decode cX0_init 99 = .ok (.iconst 0, 1) := by decide +kernel
theorem dX0_init_100 : decode cX0_init 100 = .ok (.putfield 38, 3) := by decide +kernel
theorem dX0_init_103 : decode cX0_init 103 = .ok (.return_, 1) := by decide +kernel
theorem dX0_become_0 : decode cX0_become 0 = .ok (.iconst 0, 1) := by decide +kernel
theorem dX0_become_1 : decode cX0_become 1 = .ok (.istore_n 2, 1) := by decide +kernel
theorem dX0_become_2 : decode cX0_become 2 = .ok (.iload_n 2, 1) := by decide +kernel
theorem dX0_become_3 : decode cX0_become 3 = .ok (.bipush 48, 2) := by decide +kernel
theorem dX0_become_5 : decode cX0_become 5 = .ok (.if_icmp .ge 21, 3) := by decide +kernel
theorem dX0_become_8 : decode cX0_become 8 = .ok (.aload_n 0, 1) := by decide +kernel
theorem dX0_become_9 : decode cX0_become 9 = .ok (.getfield 17, 3) := by decide +kernel
theorem dX0_become_12 : decode cX0_become 12 = .ok (.iload_n 2, 1) := by decide +kernel
theorem dX0_become_13 : decode cX0_become 13 = .ok (.aload_n 1, 1) := by decide +kernel
theorem dX0_become_14 : decode cX0_become 14 = .ok (.getfield 17, 3) := by decide +kernel
theorem dX0_become_17 : decode cX0_become 17 = .ok (.iload_n 2, 1) := by decide +kernel
theorem dX0_become_18 : decode cX0_become 18 = .ok (.aaload, 1) := by decide +kernel
theorem dX0_become_19 : decode cX0_become 19 = .ok (.aastore, 1) := by decide +kernel
theorem dX0_become_20 : decode cX0_become 20 = .ok (.iinc 2 1, 3) := by decide +kernel
theorem dX0_become_23 : decode cX0_become 23 = .ok (.goto (-21), 3) := by decide +kernel
theorem dX0_become_26 : decode cX0_become 26 = .ok (.iconst 0, 1) := by decide +kernel
theorem dX0_become_27 : decode cX0_become 27 = .ok (.istore_n 2, 1) := by decide +kernel
theorem dX0_become_28 : decode cX0_become 28 = .ok (.iload_n 2, 1) := by decide +kernel
theorem dX0_become_29 : decode cX0_become 29 = .ok (.bipush 12, 2) := by decide +kernel
theorem dX0_become_31 : decode cX0_become 31 = .ok (.if_icmp .ge 57, 3) := by decide +kernel
theorem dX0_become_34 : decode cX0_become 34 = .ok (.aload_n 0, 1) := by decide +kernel
theorem dX0_become_35 : decode cX0_become 35 = .ok (.getfield 21, 3) := by decide +kernel
theorem dX0_become_38 : decode cX0_become 38 = .ok (.iload_n 2, 1) := by decide +kernel
theorem dX0_become_39 : decode cX0_become 39 = .ok (.aload_n 1, 1) := by decide +kernel
theorem dX0_become_40 : decode cX0_become 40 = .ok (.getfield 21, 3) := by decide +kernel
theorem dX0_become_43 : decode cX0_become 43 = .ok (.iload_n 2, 1) := by decide +kernel
theorem dX0_become_44 : decode cX0_become 44 = .ok (.iaload, 1) := by decide +kernel
theorem dX0_become_45 : decode cX0_become 45 = .ok (.iastore, 1) := by decide +kernel
theorem dX0_become_46 : decode cX0_become 46 = .ok (.aload_n 0, 1) := by decide +kernel
theorem dX0_become_47 : decode cX0_become 47 = .ok (.getfield 25, 3) := by decide +kernel
theorem dX0_become_50 : decode cX0_become 50 = .ok (.iload_n 2, 1) := by decide +kernel
theorem dX0_become_51 : decode cX0_become 51 = .ok (.aload_n 1, 1) := by decide +kernel
theorem dX0_become_52 : decode cX0_become 52 = .ok (.getfield 25, 3) := by decide +kernel
theorem dX0_become_55 : decode cX0_become 55 = .ok (.iload_n 2, 1) := by decide +kernel
theorem dX0_become_56 : decode cX0_become 56 = .ok (.aaload, 1) := by decide +kernel
theorem dX0_become_57 : decode cX0_become 57 = .ok (.aastore, 1) := by decide +kernel
theorem dX0_become_58 : decode cX0_become 58 = .ok (.aload_n 0, 1) := by decide +kernel
theorem dX0_become_59 : decode cX0_become 59 = .ok (.getfield 28, 3) := by decide +kernel
theorem dX0_become_62 : decode cX0_become 62 = .ok (.iload_n 2, 1) := by decide +kernel
theorem dX0_become_63 : decode cX0_become 63 = .ok (.aload_n 1, 1) := by decide +kernel
theorem dX0_become_64 : decode cX0_become 64 = .ok (.getfield 28, 3) := by decide +kernel
theorem dX0_become_67 : decode cX0_become 67 = .ok (.iload_n 2, 1) := by decide +kernel
theorem dX0_become_68 : decode cX0_become 68 = .ok (.iaload, 1) := by decide +kernel
theorem dX0_become_69 : decode cX0_become 69 = .ok (.iastore, 1) := by decide +kernel
theorem dX0_become_70 : decode cX0_become 70 = .ok (.aload_n 0, 1) := by decide +kernel
theorem dX0_become_71 : decode cX0_become 71 = .ok (.getfield 31, 3) := by decide +kernel
theorem dX0_become_74 : decode cX0_become 74 = .ok (.iload_n 2, 1) := by decide +kernel
theorem dX0_become_75 : decode cX0_become 75 = .ok (.aload_n 1, 1) := by decide +kernel
theorem dX0_become_76 : decode cX0_become 76 = .ok (.getfield 31, 3) := by decide +kernel
theorem dX0_become_79 : decode cX0_become 79 = .ok (.iload_n 2, 1) := by decide +kernel
theorem dX0_become_80 : decode cX0_become 80 = .ok (.iaload, 1) := by decide +kernel
theorem dX0_become_81 : decode cX0_become 81 = .ok (.iastore, 1) := by decide +kernel
theorem dX0_become_82 : decode cX0_become 82 = .ok (.iinc 2 1, 3) := by decide +kernel
theorem dX0_become_85 : decode cX0_become 85 = .ok (.goto (-57), 3) := by decide +kernel
theorem dX0_become_88 : decode cX0_become 88 = .ok (.aload_n 0, 1) := by decide +kernel
theorem dX0_become_89 : decode cX0_become 89 = .ok (.aload_n 1, 1) := by decide +kernel
theorem dX0_become_90 : decode cX0_become 90 = .ok (.getfield 34, 3) := by decide +kernel
theorem dX0_become_93 : decode cX0_become 93 = .ok (.putfield 34, 3) := by decide +kernel
theorem dX0_become_96 : decode cX0_become 96 = .ok (.aload_n 0, 1) := by decide +kernel
theorem dX0_become_97 : decode cX0_become 97 = .ok (.aload_n 1, 1) := by decide +kernel
theorem dX0_become_98 : decode cX0_become 98 = .ok (.getfield 38, 3) := by decide +kernel
theorem dX0_become_101 : decode cX0_become 101 = .ok (.putfield 38, 3) := by decide +kernel
theorem dX0_become_104 : decode cX0_become 104 = .ok (.return_, 1) := by decide +kernel
theorem dX0_versions_0 : decode cX0_versions 0 = .ok (.aload_n 0, 1) := by decide +kernel
theorem dX0_versions_1 : decode cX0_versions 1 = .ok (.getfield 34, 3) := by decide +kernel
theorem dX0_versions_4 : decode cX0_versions 4 = .ok (.ireturn, 1) := by decide +kernel
theorem dX0_hasVersion_0 : decode cX0_hasVersion 0 = .ok (.iload_n 1, 1) := by decide +kernel
theorem dX0_hasVersion_1 : decode cX0_hasVersion 1 = .ok (.ifCond .lt 15, 3) := by decide +kernel
theorem dX0_hasVersion_4 : decode cX0_hasVersion 4 = .ok (.iload_n 1, 1) := by decide +kernel
theorem dX0_hasVersion_5 : decode cX0_hasVersion 5 = .ok (.aload_n 0, 1) := by decide +kernel
theorem dX0_hasVersion_6 : decode cX0_hasVersion 6 = .ok (.getfield 34, 3) := by decide +kernel
theorem dX0_hasVersion_9 : decode cX0_hasVersion 9 = .ok (.if_icmp .ge 7, 3) := by decide +kernel
theorem dX0_hasVersion_12 : decode cX0_hasVersion 12 = .ok (.iconst 1, 1) := by decide +kernel
theorem dX0_hasVersion_13 : decode cX0_hasVersion 13 = .ok (.goto 4, 3) := by decide +kernel
theorem dX0_hasVersion_16 : decode cX0_hasVersion 16 = .ok (.iconst 0, 1) := by decide +kernel
theorem dX0_hasVersion_17 : decode cX0_hasVersion 17 = .ok (.ireturn, 1) := by decide +kernel
theorem dX0_addVersion_0 : decode cX0_addVersion 0 = .ok (.aload_n 0, 1) := by decide +kernel
theorem dX0_addVersion_1 : decode cX0_addVersion 1 = .ok (.getfield 34, 3) := by decide +kernel
theorem dX0_addVersion_4 : decode cX0_addVersion 4 = .ok (.bipush 6, 2) := by decide +kernel
theorem dX0_addVersion_6 : decode cX0_addVersion 6 = .ok (.if_icmp .lt 6, 3) := by decide +kernel
theorem dX0_addVersion_9 : decode cX0_addVersion 9 = .ok (.bipush (-4), 2) := by decide +kernel
theorem dX0_addVersion_11 : decode cX0_addVersion 11 = .ok (.ireturn, 1) := by decide +kernel
theorem dX0_addVersion_12 : decode cX0_addVersion 12 = .ok (.iconst 0, 1) := by decide +kernel
theorem dX0_addVersion_13 : decode cX0_addVersion 13 = .ok (.istore_n 1, 1) := by decide +kernel
theorem dX0_addVersion_14 : decode cX0_addVersion 14 = .ok (.iload_n 1, 1) := by decide +kernel
theorem dX0_addVersion_15 : decode cX0_addVersion 15 = .ok (.bipush 8, 2) := by decide +kernel
theorem dX0_addVersion_17 : decode cX0_addVersion 17 = .ok (.if_icmp .ge 34, 3) := by decide +kernel
theorem dX0_addVersion_20 : decode cX0_addVersion 20 = .ok (.aload_n 0, 1) := by decide +kernel
theorem dX0_addVersion_21 : decode cX0_addVersion 21 = .ok (.getfield 17, 3) := by decide +kernel
theorem dX0_addVersion_24 : decode cX0_addVersion 24 = .ok (.aload_n 0, 1) := by decide +kernel
theorem dX0_addVersion_25 : decode cX0_addVersion 25 = .ok (.getfield 34, 3) := by decide +kernel
theorem dX0_addVersion_28 : decode cX0_addVersion 28 = .ok (.bipush 8, 2) := by decide +kernel
theorem dX0_addVersion_30 : decode cX0_addVersion 30 = .ok (.imul, 1) := by decide +kernel
theorem dX0_addVersion_31 : decode cX0_addVersion 31 = .ok (.iload_n 1, 1) := by decide +kernel
theorem dX0_addVersion_32 : decode cX0_addVersion 32 = .ok (.iadd, 1) := by decide +kernel
theorem dX0_addVersion_33 : decode cX0_addVersion 33 = .ok (.aload_n 0, 1) := by decide +kernel
theorem dX0_addVersion_34 : decode cX0_addVersion 34 = .ok (.aload_n 0, 1) := by decide +kernel
theorem dX0_addVersion_35 : decode cX0_addVersion 35 = .ok (.getfield 34, 3) := by decide +kernel
theorem dX0_addVersion_38 : decode cX0_addVersion 38 = .ok (.iconst 1, 1) := by decide +kernel
theorem dX0_addVersion_39 : decode cX0_addVersion 39 = .ok (.isub, 1) := by decide +kernel
theorem dX0_addVersion_40 : decode cX0_addVersion 40 = .ok (.iload_n 1, 1) := by decide +kernel
theorem dX0_addVersion_41 : decode cX0_addVersion 41 = .ok (.invokevirtual 41, 3) := by decide +kernel
theorem dX0_addVersion_44 : decode cX0_addVersion 44 = .ok (.aastore, 1) := by decide +kernel
theorem dX0_addVersion_45 : decode cX0_addVersion 45 = .ok (.iinc 1 1, 3) := by decide +kernel
theorem dX0_addVersion_48 : decode cX0_addVersion 48 = .ok (.goto (-34), 3) := by decide +kernel
theorem dX0_addVersion_51 : decode cX0_addVersion 51 = .ok (.aload_n 0, 1) := by decide +kernel
theorem dX0_addVersion_52 : decode cX0_addVersion 52 = .ok (.dup, 1) := by decide +kernel
theorem dX0_addVersion_53 : decode cX0_addVersion 53 = .ok (.getfield 34, 3) := by decide +kernel
theorem dX0_addVersion_56 : decode cX0_addVersion 56 = .ok (.iconst 1, 1) := by decide +kernel
theorem dX0_addVersion_57 : decode cX0_addVersion 57 = .ok (.iadd, 1) := by decide +kernel
theorem dX0_addVersion_58 : decode cX0_addVersion 58 = .ok (.putfield 34, 3) := by decide +kernel
theorem dX0_addVersion_61 : decode cX0_addVersion 61 = .ok (.aload_n 0, 1) := by decide +kernel
theorem dX0_addVersion_62 : decode cX0_addVersion 62 = .ok (.getfield 34, 3) := by decide +kernel
theorem dX0_addVersion_65 : decode cX0_addVersion 65 = .ok (.iconst 1, 1) := by decide +kernel
theorem dX0_addVersion_66 : decode cX0_addVersion 66 = .ok (.isub, 1) := by decide +kernel
theorem dX0_addVersion_67 : decode cX0_addVersion 67 = .ok (.ireturn, 1) := by decide +kernel
theorem dX0_text_0 : decode cX0_text 0 = .ok (.aload_n 0, 1) := by decide +kernel
theorem dX0_text_1 : decode cX0_text 1 = .ok (.iload_n 1, 1) := by decide +kernel
theorem dX0_text_2 : decode cX0_text 2 = .ok (.invokevirtual 45, 3) := by decide +kernel
theorem dX0_text_5 : decode cX0_text 5 = .ok (.ifCond .eq 10, 3) := by decide +kernel
theorem dX0_text_8 : decode cX0_text 8 = .ok (.iload_n 2, 1) := by decide +kernel
theorem dX0_text_9 : decode cX0_text 9 = .ok (.invokestatic 49, 3) := by decide +kernel
theorem dX0_text_12 : decode cX0_text 12 = .ok (.ifCond .ne 8, 3) := by decide +kernel
theorem dX0_text_15 : decode cX0_text 15 = .ok (.aload_n 0, 1) := by decide +kernel
theorem dX0_text_16 : decode cX0_text 16 = .ok (.getfield 9, 3) := by decide +kernel
theorem dX0_text_19 : decode cX0_text 19 = .ok (.areturn, 1) := by decide +kernel
theorem dX0_text_20 : decode cX0_text 20 = .ok (.aload_n 0, 1) := by decide +kernel
theorem dX0_text_21 : decode cX0_text 21 = .ok (.getfield 17, 3) := by decide +kernel
theorem dX0_text_24 : decode cX0_text 24 = .ok (.iload_n 1, 1) := by decide +kernel
theorem dX0_text_25 : decode cX0_text 25 = .ok (.bipush 8, 2) := by decide +kernel
theorem dX0_text_27 : decode cX0_text 27 = .ok (.imul, 1) := by decide +kernel
theorem dX0_text_28 : decode cX0_text 28 = .ok (.iload_n 2, 1) := by decide +kernel
theorem dX0_text_29 : decode cX0_text 29 = .ok (.iadd, 1) := by decide +kernel
theorem dX0_text_30 : decode cX0_text 30 = .ok (.aaload, 1) := by decide +kernel
theorem dX0_text_31 : decode cX0_text 31 = .ok (.areturn, 1) := by decide +kernel
theorem dX0_rewrite_0 : decode cX0_rewrite 0 = .ok (.iload_n 1, 1) := by decide +kernel
theorem dX0_rewrite_1 : decode cX0_rewrite 1 = .ok (.invokestatic 49, 3) := by decide +kernel
theorem dX0_rewrite_4 : decode cX0_rewrite 4 = .ok (.ifCond .eq 20, 3) := by decide +kernel
theorem dX0_rewrite_7 : decode cX0_rewrite 7 = .ok (.aload_n 0, 1) := by decide +kernel
theorem dX0_rewrite_8 : decode cX0_rewrite 8 = .ok (.getfield 17, 3) := by decide +kernel
theorem dX0_rewrite_11 : decode cX0_rewrite 11 = .ok (.aload_n 0, 1) := by decide +kernel
theorem dX0_rewrite_12 : decode cX0_rewrite 12 = .ok (.getfield 34, 3) := by decide +kernel
theorem dX0_rewrite_15 : decode cX0_rewrite 15 = .ok (.iconst 1, 1) := by decide +kernel
theorem dX0_rewrite_16 : decode cX0_rewrite 16 = .ok (.isub, 1) := by decide +kernel
theorem dX0_rewrite_17 : decode cX0_rewrite 17 = .ok (.bipush 8, 2) := by decide +kernel
theorem dX0_rewrite_19 : decode cX0_rewrite 19 = .ok (.imul, 1) := by decide +kernel
theorem dX0_rewrite_20 : decode cX0_rewrite 20 = .ok (.iload_n 1, 1) := by decide +kernel
theorem dX0_rewrite_21 : decode cX0_rewrite 21 = .ok (.iadd, 1) := by decide +kernel
theorem dX0_rewrite_22 : decode cX0_rewrite 22 = .ok (.aload_n 2, 1) := by decide +kernel
theorem dX0_rewrite_23 : decode cX0_rewrite 23 = .ok (.aastore, 1) := by decide +kernel
theorem dX0_rewrite_24 : decode cX0_rewrite 24 = .ok (.return_, 1) := by decide +kernel
theorem dX0_changed_0 : decode cX0_changed 0 = .ok (.iconst 0, 1) := by decide +kernel
theorem dX0_changed_1 : decode cX0_changed 1 = .ok (.istore_n 2, 1) := by decide +kernel
theorem dX0_changed_2 : decode cX0_changed 2 = .ok (.iconst 0, 1) := by decide +kernel
theorem dX0_changed_3 : decode cX0_changed 3 = .ok (.istore_n 3, 1) := by decide +kernel
theorem dX0_changed_4 : decode cX0_changed 4 = .ok (.iload_n 3, 1) := by decide +kernel
theorem dX0_changed_5 : decode cX0_changed 5 = .ok (.bipush 8, 2) := by decide +kernel
theorem dX0_changed_7 : decode cX0_changed 7 = .ok (.if_icmp .ge 35, 3) := by decide +kernel
theorem dX0_changed_10 : decode cX0_changed 10 = .ok (.aload_n 0, 1) := by decide +kernel
theorem dX0_changed_11 : decode cX0_changed 11 = .ok (.iload_n 1, 1) := by decide +kernel
theorem dX0_changed_12 : decode cX0_changed 12 = .ok (.iload_n 3, 1) := by decide +kernel
theorem dX0_changed_13 : decode cX0_changed 13 = .ok (.invokevirtual 41, 3) := by decide +kernel
theorem dX0_changed_16 : decode cX0_changed 16 = .ok (.aload_n 0, 1) := by decide +kernel
theorem dX0_changed_17 : decode cX0_changed 17 = .ok (.iload_n 1, 1) := by decide +kernel
theorem dX0_changed_18 : decode cX0_changed 18 = .ok (.iconst 1, 1) := by decide +kernel
theorem dX0_changed_19 : decode cX0_changed 19 = .ok (.isub, 1) := by decide +kernel
theorem dX0_changed_20 : decode cX0_changed 20 = .ok (.iload_n 3, 1) := by decide +kernel
theorem dX0_changed_21 : decode cX0_changed 21 = .ok (.invokevirtual 41, 3) := by decide +kernel
theorem dX0_changed_24 : decode cX0_changed 24 = .ok (.invokevirtual 52, 3) := by decide +kernel
theorem dX0_changed_27 : decode cX0_changed 27 = .ok (.ifCond .ne 9, 3) := by decide +kernel
theorem dX0_changed_30 : decode cX0_changed 30 = .ok (.iload_n 2, 1) := by decide +kernel
theorem dX0_changed_31 : decode cX0_changed 31 = .ok (.iconst 1, 1) := by decide +kernel
theorem dX0_changed_32 : decode cX0_changed 32 = .ok (.iload_n 3, 1) := by decide +kernel
theorem dX0_changed_33 : decode cX0_changed 33 = .ok (.ishl, 1) := by decide +kernel
theorem dX0_changed_34 : decode cX0_changed 34 = .ok (.ior, 1) := by decide +kernel
theorem dX0_changed_35 : decode cX0_changed 35 = .ok (.istore_n 2, 1) := by decide +kernel
theorem dX0_changed_36 : decode cX0_changed 36 = .ok (.iinc 3 1, 3) := by decide +kernel
theorem dX0_changed_39 : decode cX0_changed 39 = .ok (.goto (-35), 3) := by decide +kernel
theorem dX0_changed_42 : decode cX0_changed 42 = .ok (.iload_n 2, 1) := by decide +kernel
theorem dX0_changed_43 : decode cX0_changed 43 = .ok (.ireturn, 1) := by decide +kernel
theorem dX0_pages_0 : decode cX0_pages 0 = .ok (.aload_n 0, 1) := by decide +kernel
theorem dX0_pages_1 : decode cX0_pages 1 = .ok (.getfield 38, 3) := by decide +kernel
theorem dX0_pages_4 : decode cX0_pages 4 = .ok (.ireturn, 1) := by decide +kernel
theorem dX0_hasPage_0 : decode cX0_hasPage 0 = .ok (.iload_n 1, 1) := by decide +kernel
theorem dX0_hasPage_1 : decode cX0_hasPage 1 = .ok (.ifCond .lt 15, 3) := by decide +kernel
theorem dX0_hasPage_4 : decode cX0_hasPage 4 = .ok (.iload_n 1, 1) := by decide +kernel
theorem dX0_hasPage_5 : decode cX0_hasPage 5 = .ok (.aload_n 0, 1) := by decide +kernel
theorem dX0_hasPage_6 : decode cX0_hasPage 6 = .ok (.getfield 38, 3) := by decide +kernel
theorem dX0_hasPage_9 : decode cX0_hasPage 9 = .ok (.if_icmp .ge 7, 3) := by decide +kernel
theorem dX0_hasPage_12 : decode cX0_hasPage 12 = .ok (.iconst 1, 1) := by decide +kernel
theorem dX0_hasPage_13 : decode cX0_hasPage 13 = .ok (.goto 4, 3) := by decide +kernel
theorem dX0_hasPage_16 : decode cX0_hasPage 16 = .ok (.iconst 0, 1) := by decide +kernel
theorem dX0_hasPage_17 : decode cX0_hasPage 17 = .ok (.ireturn, 1) := by decide +kernel
theorem dX0_isExample_0 : decode cX0_isExample 0 = .ok (.aload_n 0, 1) := by decide +kernel
theorem dX0_isExample_1 : decode cX0_isExample 1 = .ok (.iload_n 1, 1) := by decide +kernel
theorem dX0_isExample_2 : decode cX0_isExample 2 = .ok (.invokevirtual 56, 3) := by decide +kernel
theorem dX0_isExample_5 : decode cX0_isExample 5 = .ok (.ifCond .eq 18, 3) := by decide +kernel
theorem dX0_isExample_8 : decode cX0_isExample 8 = .ok (.aload_n 0, 1) := by decide +kernel
theorem dX0_isExample_9 : decode cX0_isExample 9 = .ok (.getfield 21, 3) := by decide +kernel
theorem dX0_isExample_12 : decode cX0_isExample 12 = .ok (.iload_n 1, 1) := by decide +kernel
theorem dX0_isExample_13 : decode cX0_isExample 13 = .ok (.iaload, 1) := by decide +kernel
theorem dX0_isExample_14 : decode cX0_isExample 14 = .ok (.bipush (-6), 2) := by decide +kernel
theorem dX0_isExample_16 : decode cX0_isExample 16 = .ok (.if_icmp .ne 7, 3) := by decide +kernel
theorem dX0_isExample_19 : decode cX0_isExample 19 = .ok (.iconst 1, 1) := by decide +kernel
theorem dX0_isExample_20 : decode cX0_isExample 20 = .ok (.goto 4, 3) := by decide +kernel
theorem dX0_isExample_23 : decode cX0_isExample 23 = .ok (.iconst 0, 1) := by decide +kernel
theorem dX0_isExample_24 : decode cX0_isExample 24 = .ok (.ireturn, 1) := by decide +kernel
theorem dX0_examples_0 : decode cX0_examples 0 = .ok (.iconst 0, 1) := by decide +kernel
theorem dX0_examples_1 : decode cX0_examples 1 = .ok (.istore_n 1, 1) := by decide +kernel
theorem dX0_examples_2 : decode cX0_examples 2 = .ok (.iconst 0, 1) := by decide +kernel
theorem dX0_examples_3 : decode cX0_examples 3 = .ok (.istore_n 2, 1) := by decide +kernel
theorem dX0_examples_4 : decode cX0_examples 4 = .ok (.iload_n 2, 1) := by decide +kernel
theorem dX0_examples_5 : decode cX0_examples 5 = .ok (.aload_n 0, 1) := by decide +kernel
theorem dX0_examples_6 : decode cX0_examples 6 = .ok (.getfield 38, 3) := by decide +kernel
theorem dX0_examples_9 : decode cX0_examples 9 = .ok (.if_icmp .ge 23, 3) := by decide +kernel
theorem dX0_examples_12 : decode cX0_examples 12 = .ok (.aload_n 0, 1) := by decide +kernel
theorem dX0_examples_13 : decode cX0_examples 13 = .ok (.iload_n 2, 1) := by decide +kernel
theorem dX0_examples_14 : decode cX0_examples 14 = .ok (.invokevirtual 59, 3) := by decide +kernel
theorem dX0_examples_17 : decode cX0_examples 17 = .ok (.ifCond .eq 9, 3) := by decide +kernel
theorem dX0_examples_20 : decode cX0_examples 20 = .ok (.iload_n 1, 1) := by decide +kernel
theorem dX0_examples_21 : decode cX0_examples 21 = .ok (.iconst 1, 1) := by decide +kernel
theorem dX0_examples_22 : decode cX0_examples 22 = .ok (.iload_n 2, 1) := by decide +kernel
theorem dX0_examples_23 : decode cX0_examples 23 = .ok (.ishl, 1) := by decide +kernel
theorem dX0_examples_24 : decode cX0_examples 24 = .ok (.ior, 1) := by decide +kernel
theorem dX0_examples_25 : decode cX0_examples 25 = .ok (.istore_n 1, 1) := by decide +kernel
theorem dX0_examples_26 : decode cX0_examples 26 = .ok (.iinc 2 1, 3) := by decide +kernel
theorem dX0_examples_29 : decode cX0_examples 29 = .ok (.goto (-25), 3) := by decide +kernel
theorem dX0_examples_32 : decode cX0_examples 32 = .ok (.iload_n 1, 1) := by decide +kernel
theorem dX0_examples_33 : decode cX0_examples 33 = .ok (.ireturn, 1) := by decide +kernel
theorem dX0_addTelling_0 : decode cX0_addTelling 0 = .ok (.aload_n 0, 1) := by decide +kernel
theorem dX0_addTelling_1 : decode cX0_addTelling 1 = .ok (.iload_n 1, 1) := by decide +kernel
theorem dX0_addTelling_2 : decode cX0_addTelling 2 = .ok (.aload_n 0, 1) := by decide +kernel
theorem dX0_addTelling_3 : decode cX0_addTelling 3 = .ok (.getfield 9, 3) := by decide +kernel
theorem dX0_addTelling_6 : decode cX0_addTelling 6 = .ok (.iconst 0, 1) := by decide +kernel
theorem dX0_addTelling_7 : decode cX0_addTelling 7 = .ok (.invokevirtual 62, 3) := by decide +kernel
theorem dX0_addTelling_10 : decode cX0_addTelling 10 = .ok (.ireturn, 1) := by decide +kernel
theorem dX0_addExample_0 : decode cX0_addExample 0 = .ok (.aload_n 0, 1) := by decide +kernel
theorem dX0_addExample_1 : decode cX0_addExample 1 = .ok (.bipush (-6), 2) := by decide +kernel
theorem dX0_addExample_3 : decode cX0_addExample 3 = .ok (.aload_n 1, 1) := by decide +kernel
theorem dX0_addExample_4 : decode cX0_addExample 4 = .ok (.iload_n 2, 1) := by decide +kernel
theorem dX0_addExample_5 : decode cX0_addExample 5 = .ok (.invokevirtual 62, 3) := by decide +kernel
theorem dX0_addExample_8 : decode cX0_addExample 8 = .ok (.ireturn, 1) := by decide +kernel
theorem dX0_add_0 : decode cX0_add 0 = .ok (.aload_n 0, 1) := by decide +kernel
theorem dX0_add_1 : decode cX0_add 1 = .ok (.getfield 38, 3) := by decide +kernel
theorem dX0_add_4 : decode cX0_add 4 = .ok (.bipush 12, 2) := by decide +kernel
theorem dX0_add_6 : decode cX0_add 6 = .ok (.if_icmp .lt 6, 3) := by decide +kernel
theorem dX0_add_9 : decode cX0_add 9 = .ok (.bipush (-4), 2) := by decide +kernel
theorem dX0_add_11 : decode cX0_add 11 = .ok (.ireturn, 1) := by decide +kernel
theorem dX0_add_12 : decode cX0_add 12 = .ok (.aload_n 0, 1) := by decide +kernel
theorem dX0_add_13 : decode cX0_add 13 = .ok (.getfield 21, 3) := by decide +kernel
theorem dX0_add_16 : decode cX0_add 16 = .ok (.aload_n 0, 1) := by decide +kernel
theorem dX0_add_17 : decode cX0_add 17 = .ok (.getfield 38, 3) := by decide +kernel
theorem dX0_add_20 : decode cX0_add 20 = .ok (.iload_n 1, 1) := by decide +kernel
theorem dX0_add_21 : decode cX0_add 21 = .ok (.iastore, 1) := by decide +kernel
theorem dX0_add_22 : decode cX0_add 22 = .ok (.aload_n 0, 1) := by decide +kernel
theorem dX0_add_23 : decode cX0_add 23 = .ok (.getfield 25, 3) := by decide +kernel
theorem dX0_add_26 : decode cX0_add 26 = .ok (.aload_n 0, 1) := by decide +kernel
theorem dX0_add_27 : decode cX0_add 27 = .ok (.getfield 38, 3) := by decide +kernel
theorem dX0_add_30 : decode cX0_add 30 = .ok (.aload_n 2, 1) := by decide +kernel
theorem dX0_add_31 : decode cX0_add 31 = .ok (.aastore, 1) := by decide +kernel
theorem dX0_add_32 : decode cX0_add 32 = .ok (.aload_n 0, 1) := by decide +kernel
theorem dX0_add_33 : decode cX0_add 33 = .ok (.getfield 28, 3) := by decide +kernel
theorem dX0_add_36 : decode cX0_add 36 = .ok (.aload_n 0, 1) := by decide +kernel
theorem dX0_add_37 : decode cX0_add 37 = .ok (.getfield 38, 3) := by decide +kernel
theorem dX0_add_40 : decode cX0_add 40 = .ok (.aload_n 2, 1) := by decide +kernel
theorem dX0_add_41 : decode cX0_add 41 = .ok (.invokevirtual 66, 3) := by decide +kernel
theorem dX0_add_44 : decode cX0_add 44 = .ok (.iastore, 1) := by decide +kernel
theorem dX0_add_45 : decode cX0_add 45 = .ok (.aload_n 0, 1) := by decide +kernel
theorem dX0_add_46 : decode cX0_add 46 = .ok (.getfield 31, 3) := by decide +kernel
theorem dX0_add_49 : decode cX0_add 49 = .ok (.aload_n 0, 1) := by decide +kernel
theorem dX0_add_50 : decode cX0_add 50 = .ok (.getfield 38, 3) := by decide +kernel
theorem dX0_add_53 : decode cX0_add 53 = .ok (.iload_n 3, 1) := by decide +kernel
theorem dX0_add_54 : decode cX0_add 54 = .ok (.iastore, 1) := by decide +kernel
theorem dX0_add_55 : decode cX0_add 55 = .ok (.aload_n 0, 1) := by decide +kernel
theorem dX0_add_56 : decode cX0_add 56 = .ok (.dup, 1) := by decide +kernel
theorem dX0_add_57 : decode cX0_add 57 = .ok (.getfield 38, 3) := by decide +kernel
theorem dX0_add_60 : decode cX0_add 60 = .ok (.iconst 1, 1) := by decide +kernel
theorem dX0_add_61 : decode cX0_add 61 = .ok (.iadd, 1) := by decide +kernel
theorem dX0_add_62 : decode cX0_add 62 = .ok (.putfield 38, 3) := by decide +kernel
theorem dX0_add_65 : decode cX0_add 65 = .ok (.aload_n 0, 1) := by decide +kernel
theorem dX0_add_66 : decode cX0_add 66 = .ok (.getfield 38, 3) := by decide +kernel
theorem dX0_add_69 : decode cX0_add 69 = .ok (.iconst 1, 1) := by decide +kernel
theorem dX0_add_70 : decode cX0_add 70 = .ok (.isub, 1) := by decide +kernel
theorem dX0_add_71 : decode cX0_add 71 = .ok (.ireturn, 1) := by decide +kernel
theorem dX0_toldWord_0 : decode cX0_toldWord 0 = .ok (.aload_n 0, 1) := by decide +kernel
theorem dX0_toldWord_1 : decode cX0_toldWord 1 = .ok (.iload_n 1, 1) := by decide +kernel
theorem dX0_toldWord_2 : decode cX0_toldWord 2 = .ok (.invokevirtual 56, 3) := by decide +kernel
theorem dX0_toldWord_5 : decode cX0_toldWord 5 = .ok (.ifCond .eq 12, 3) := by decide +kernel
theorem dX0_toldWord_8 : decode cX0_toldWord 8 = .ok (.aload_n 0, 1) := by decide +kernel
theorem dX0_toldWord_9 : decode cX0_toldWord 9 = .ok (.getfield 21, 3) := by decide +kernel
theorem dX0_toldWord_12 : decode cX0_toldWord 12 = .ok (.iload_n 1, 1) := by decide +kernel
theorem dX0_toldWord_13 : decode cX0_toldWord 13 = .ok (.iaload, 1) := by decide +kernel
theorem dX0_toldWord_14 : decode cX0_toldWord 14 = .ok (.goto 5, 3) := by decide +kernel
theorem dX0_toldWord_17 : decode cX0_toldWord 17 = .ok (.bipush (-6), 2) := by decide +kernel
theorem dX0_toldWord_19 : decode cX0_toldWord 19 = .ok (.ireturn, 1) := by decide +kernel
theorem dX0_toldWords_0 : decode cX0_toldWords 0 = .ok (.iconst 0, 1) := by decide +kernel
theorem dX0_toldWords_1 : decode cX0_toldWords 1 = .ok (.istore_n 1, 1) := by decide +kernel
theorem dX0_toldWords_2 : decode cX0_toldWords 2 = .ok (.iconst 0, 1) := by decide +kernel
theorem dX0_toldWords_3 : decode cX0_toldWords 3 = .ok (.istore_n 2, 1) := by decide +kernel
theorem dX0_toldWords_4 : decode cX0_toldWords 4 = .ok (.iload_n 2, 1) := by decide +kernel
theorem dX0_toldWords_5 : decode cX0_toldWords 5 = .ok (.aload_n 0, 1) := by decide +kernel
theorem dX0_toldWords_6 : decode cX0_toldWords 6 = .ok (.getfield 38, 3) := by decide +kernel
theorem dX0_toldWords_9 : decode cX0_toldWords 9 = .ok (.if_icmp .ge 28, 3) := by decide +kernel
theorem dX0_toldWords_12 : decode cX0_toldWords 12 = .ok (.aload_n 0, 1) := by decide +kernel
theorem dX0_toldWords_13 : decode cX0_toldWords 13 = .ok (.iload_n 2, 1) := by decide +kernel
theorem dX0_toldWords_14 : decode cX0_toldWords 14 = .ok (.invokevirtual 59, 3) := by decide +kernel
theorem dX0_toldWords_17 : decode cX0_toldWords 17 = .ok (.ifCond .ne 14, 3) := by decide +kernel
theorem dX0_toldWords_20 : decode cX0_toldWords 20 = .ok (.iload_n 1, 1) := by decide +kernel
theorem dX0_toldWords_21 : decode cX0_toldWords 21 = .ok (.iconst 1, 1) := by decide +kernel
theorem dX0_toldWords_22 : decode cX0_toldWords 22 = .ok (.aload_n 0, 1) := by decide +kernel
theorem dX0_toldWords_23 : decode cX0_toldWords 23 = .ok (.getfield 21, 3) := by decide +kernel
theorem dX0_toldWords_26 : decode cX0_toldWords 26 = .ok (.iload_n 2, 1) := by decide +kernel
theorem dX0_toldWords_27 : decode cX0_toldWords 27 = .ok (.iaload, 1) := by decide +kernel
theorem dX0_toldWords_28 : decode cX0_toldWords 28 = .ok (.ishl, 1) := by decide +kernel
theorem dX0_toldWords_29 : decode cX0_toldWords 29 = .ok (.ior, 1) := by decide +kernel
theorem dX0_toldWords_30 : decode cX0_toldWords 30 = .ok (.istore_n 1, 1) := by decide +kernel
theorem dX0_toldWords_31 : decode cX0_toldWords 31 = .ok (.iinc 2 1, 3) := by decide +kernel
theorem dX0_toldWords_34 : decode cX0_toldWords 34 = .ok (.goto (-30), 3) := by decide +kernel
theorem dX0_toldWords_37 : decode cX0_toldWords 37 = .ok (.iload_n 1, 1) := by decide +kernel
theorem dX0_toldWords_38 : decode cX0_toldWords 38 = .ok (.ireturn, 1) := by decide +kernel
theorem dX0_example_0 : decode cX0_example 0 = .ok (.aload_n 0, 1) := by decide +kernel
theorem dX0_example_1 : decode cX0_example 1 = .ok (.iload_n 1, 1) := by decide +kernel
theorem dX0_example_2 : decode cX0_example 2 = .ok (.invokevirtual 56, 3) := by decide +kernel
theorem dX0_example_5 : decode cX0_example 5 = .ok (.ifCond .eq 12, 3) := by decide +kernel
theorem dX0_example_8 : decode cX0_example 8 = .ok (.aload_n 0, 1) := by decide +kernel
theorem dX0_example_9 : decode cX0_example 9 = .ok (.getfield 25, 3) := by decide +kernel
theorem dX0_example_12 : decode cX0_example 12 = .ok (.iload_n 1, 1) := by decide +kernel
theorem dX0_example_13 : decode cX0_example 13 = .ok (.aaload, 1) := by decide +kernel
theorem dX0_example_14 : decode cX0_example 14 = .ok (.goto 7, 3) := by decide +kernel
theorem dX0_example_17 : decode cX0_example 17 = .ok (.aload_n 0, 1) := by decide +kernel
theorem dX0_example_18 : decode cX0_example 18 = .ok (.getfield 9, 3) := by decide +kernel
theorem dX0_example_21 : decode cX0_example 21 = .ok (.areturn, 1) := by decide +kernel
theorem dX0_named_0 : decode cX0_named 0 = .ok (.aload_n 0, 1) := by decide +kernel
theorem dX0_named_1 : decode cX0_named 1 = .ok (.iload_n 1, 1) := by decide +kernel
theorem dX0_named_2 : decode cX0_named 2 = .ok (.invokevirtual 56, 3) := by decide +kernel
theorem dX0_named_5 : decode cX0_named 5 = .ok (.ifCond .eq 12, 3) := by decide +kernel
theorem dX0_named_8 : decode cX0_named 8 = .ok (.aload_n 0, 1) := by decide +kernel
theorem dX0_named_9 : decode cX0_named 9 = .ok (.getfield 28, 3) := by decide +kernel
theorem dX0_named_12 : decode cX0_named 12 = .ok (.iload_n 1, 1) := by decide +kernel
theorem dX0_named_13 : decode cX0_named 13 = .ok (.iaload, 1) := by decide +kernel
theorem dX0_named_14 : decode cX0_named 14 = .ok (.goto 4, 3) := by decide +kernel
theorem dX0_named_17 : decode cX0_named 17 = .ok (.iconst 0, 1) := by decide +kernel
theorem dX0_named_18 : decode cX0_named 18 = .ok (.ireturn, 1) := by decide +kernel
theorem dX0_due_0 : decode cX0_due 0 = .ok (.aload_n 0, 1) := by decide +kernel
theorem dX0_due_1 : decode cX0_due 1 = .ok (.iload_n 1, 1) := by decide +kernel
theorem dX0_due_2 : decode cX0_due 2 = .ok (.invokevirtual 56, 3) := by decide +kernel
theorem dX0_due_5 : decode cX0_due 5 = .ok (.ifCond .eq 12, 3) := by decide +kernel
theorem dX0_due_8 : decode cX0_due 8 = .ok (.aload_n 0, 1) := by decide +kernel
theorem dX0_due_9 : decode cX0_due 9 = .ok (.getfield 31, 3) := by decide +kernel
theorem dX0_due_12 : decode cX0_due 12 = .ok (.iload_n 1, 1) := by decide +kernel
theorem dX0_due_13 : decode cX0_due 13 = .ok (.iaload, 1) := by decide +kernel
theorem dX0_due_14 : decode cX0_due 14 = .ok (.goto 5, 3) := by decide +kernel
theorem dX0_due_17 : decode cX0_due 17 = .ok (.bipush (-6), 2) := by decide +kernel
theorem dX0_due_19 : decode cX0_due 19 = .ok (.ireturn, 1) := by decide +kernel
theorem dX0_setDue_0 : decode cX0_setDue 0 = .ok (.aload_n 0, 1) := by decide +kernel
theorem dX0_setDue_1 : decode cX0_setDue 1 = .ok (.iload_n 1, 1) := by decide +kernel
theorem dX0_setDue_2 : decode cX0_setDue 2 = .ok (.invokevirtual 56, 3) := by decide +kernel
theorem dX0_setDue_5 : decode cX0_setDue 5 = .ok (.ifCond .eq 10, 3) := by decide +kernel
theorem dX0_setDue_8 : decode cX0_setDue 8 = .ok (.aload_n 0, 1) := by decide +kernel
theorem dX0_setDue_9 : decode cX0_setDue 9 = .ok (.getfield 31, 3) := by decide +kernel
theorem dX0_setDue_12 : decode cX0_setDue 12 = .ok (.iload_n 1, 1) := by decide +kernel
theorem dX0_setDue_13 : decode cX0_setDue 13 = .ok (.iload_n 2, 1) := by decide +kernel
theorem dX0_setDue_14 : decode cX0_setDue 14 = .ok (.iastore, 1) := by decide +kernel
theorem dX0_setDue_15 : decode cX0_setDue 15 = .ok (.return_, 1) := by decide +kernel
theorem dX1_init_0 : decode cX1_init 0 = .ok (.aload_n 0, 1) := by decide +kernel
theorem dX1_init_1 : decode cX1_init 1 = .ok (.invokespecial 3, 3) := by decide +kernel
theorem dX1_init_4 : decode cX1_init 4 = .ok (.aload_n 0, 1) := by decide +kernel
theorem dX1_init_5 : decode cX1_init 5 = .ok (.sipush 320, 3) := by decide +kernel
theorem dX1_init_8 : decode cX1_init 8 = .ok (.newarray .int, 2) := by decide +kernel
theorem dX1_init_10 : decode cX1_init 10 = .ok (.putfield 9, 3) := by decide +kernel
theorem dX1_init_13 : decode cX1_init 13 = .ok (.aload_n 0, 1) := by decide +kernel
theorem dX1_init_14 : decode cX1_init 14 = .ok (.iconst 0, 1) := by decide +kernel
theorem dX1_init_15 : decode cX1_init 15 = .ok (.putfield 15, 3) := by decide +kernel
theorem dX1_init_18 : decode cX1_init 18 = .ok (.return_, 1) := by decide +kernel
theorem dX1_clear_0 : decode cX1_clear 0 = .ok (.aload_n 0, 1) := by decide +kernel
theorem dX1_clear_1 : decode cX1_clear 1 = .ok (.iconst 0, 1) := by decide +kernel
theorem dX1_clear_2 : decode cX1_clear 2 = .ok (.putfield 15, 3) := by decide +kernel
theorem dX1_clear_5 : decode cX1_clear 5 = .ok (.return_, 1) := by decide +kernel
theorem dX1_add_0 : decode cX1_add 0 = .ok (.iload_n 1, 1) := by decide +kernel
theorem dX1_add_1 : decode cX1_add 1 = .ok (.ifCond .ne 4, 3) := by decide +kernel
theorem dX1_add_4 : decode cX1_add 4 = .ok (.return_, 1) := by decide +kernel
theorem dX1_add_5 : decode cX1_add 5 = .ok (.iconst 0, 1) := by decide +kernel
theorem dX1_add_6 : decode cX1_add 6 = .ok (.istore_n 2, 1) := by decide +kernel
theorem dX1_add_7 : decode cX1_add 7 = .ok (.iload_n 2, 1) := by decide +kernel
theorem dX1_add_8 : decode cX1_add 8 = .ok (.aload_n 0, 1) := by decide +kernel
theorem dX1_add_9 : decode cX1_add 9 = .ok (.getfield 15, 3) := by decide +kernel
theorem dX1_add_12 : decode cX1_add 12 = .ok (.if_icmp .ge 23, 3) := by decide +kernel
theorem dX1_add_15 : decode cX1_add 15 = .ok (.aload_n 0, 1) := by decide +kernel
theorem dX1_add_16 : decode cX1_add 16 = .ok (.getfield 9, 3) := by decide +kernel
theorem dX1_add_19 : decode cX1_add 19 = .ok (.iload_n 2, 1) := by decide +kernel
theorem dX1_add_20 : decode cX1_add 20 = .ok (.iaload, 1) := by decide +kernel
theorem dX1_add_21 : decode cX1_add 21 = .ok (.iload_n 1, 1) := by decide +kernel
theorem dX1_add_22 : decode cX1_add 22 = .ok (.iconst (-1), 1) := by decide +kernel
theorem dX1_add_23 : decode cX1_add 23 = .ok (.ixor, 1) := by decide +kernel
theorem dX1_add_24 : decode cX1_add 24 = .ok (.iand, 1) := by decide +kernel
theorem dX1_add_25 : decode cX1_add 25 = .ok (.ifCond .ne 4, 3) := by decide +kernel
theorem dX1_add_28 : decode cX1_add 28 = .ok (.return_, 1) := by decide +kernel
theorem dX1_add_29 : decode cX1_add 29 = .ok (.iinc 2 1, 3) := by decide +kernel
theorem dX1_add_32 : decode cX1_add 32 = .ok (.goto (-25), 3) := by decide +kernel
theorem dX1_add_35 : decode cX1_add 35 = .ok (.aload_n 0, 1) := by decide +kernel
theorem dX1_add_36 : decode cX1_add 36 = .ok (.getfield 15, 3) := by decide +kernel
theorem dX1_add_39 : decode cX1_add 39 = .ok (.aload_n 0, 1) := by decide +kernel
theorem dX1_add_40 : decode cX1_add 40 = .ok (.getfield 9, 3) := by decide +kernel
theorem dX1_add_43 : decode cX1_add 43 = .ok (.arraylength, 1) := by decide +kernel
theorem dX1_add_44 : decode cX1_add 44 = .ok (.if_icmp .ge 23, 3) := by decide +kernel
theorem dX1_add_47 : decode cX1_add 47 = .ok (.aload_n 0, 1) := by decide +kernel
theorem dX1_add_48 : decode cX1_add 48 = .ok (.getfield 9, 3) := by decide +kernel
theorem dX1_add_51 : decode cX1_add 51 = .ok (.aload_n 0, 1) := by decide +kernel
theorem dX1_add_52 : decode cX1_add 52 = .ok (.getfield 15, 3) := by decide +kernel
theorem dX1_add_55 : decode cX1_add 55 = .ok (.iload_n 1, 1) := by decide +kernel
theorem dX1_add_56 : decode cX1_add 56 = .ok (.iastore, 1) := by decide +kernel
theorem dX1_add_57 : decode cX1_add 57 = .ok (.aload_n 0, 1) := by decide +kernel
theorem dX1_add_58 : decode cX1_add 58 = .ok (.dup, 1) := by decide +kernel
theorem dX1_add_59 : decode cX1_add 59 = .ok (.getfield 15, 3) := by decide +kernel
theorem dX1_add_62 : decode cX1_add 62 = .ok (.iconst 1, 1) := by decide +kernel
theorem dX1_add_63 : decode cX1_add 63 = .ok (.iadd, 1) := by decide +kernel
theorem dX1_add_64 : decode cX1_add 64 = .ok (.putfield 15, 3) := by decide +kernel
theorem dX1_add_67 : decode cX1_add 67 = .ok (.return_, 1) := by decide +kernel
theorem dX1_fewest_0 : decode cX1_fewest 0 = .ok (.iconst 1, 1) := by decide +kernel
theorem dX1_fewest_1 : decode cX1_fewest 1 = .ok (.iload_n 1, 1) := by decide +kernel
theorem dX1_fewest_2 : decode cX1_fewest 2 = .ok (.ishl, 1) := by decide +kernel
theorem dX1_fewest_3 : decode cX1_fewest 3 = .ok (.iconst 1, 1) := by decide +kernel
theorem dX1_fewest_4 : decode cX1_fewest 4 = .ok (.isub, 1) := by decide +kernel
theorem dX1_fewest_5 : decode cX1_fewest 5 = .ok (.istore_n 2, 1) := by decide +kernel
theorem dX1_fewest_6 : decode cX1_fewest 6 = .ok (.iload_n 1, 1) := by decide +kernel
theorem dX1_fewest_7 : decode cX1_fewest 7 = .ok (.istore_n 3, 1) := by decide +kernel
theorem dX1_fewest_8 : decode cX1_fewest 8 = .ok (.iconst 0, 1) := by decide +kernel
theorem dX1_fewest_9 : decode cX1_fewest 9 = .ok (.istore 4, 2) := by decide +kernel
theorem dX1_fewest_11 : decode cX1_fewest 11 = .ok (.iload 4, 2) := by decide +kernel
theorem dX1_fewest_13 : decode cX1_fewest 13 = .ok (.iconst 1, 1) := by decide +kernel
theorem dX1_fewest_14 : decode cX1_fewest 14 = .ok (.iload_n 1, 1) := by decide +kernel
theorem dX1_fewest_15 : decode cX1_fewest 15 = .ok (.ishl, 1) := by decide +kernel
theorem dX1_fewest_16 : decode cX1_fewest 16 = .ok (.if_icmp .ge 37, 3) := by decide +kernel
theorem dX1_fewest_19 : decode cX1_fewest 19 = .ok (.iload 4, 2) := by decide +kernel
theorem dX1_fewest_21 : decode cX1_fewest 21 = .ok (.invokestatic 19, 3) := by decide +kernel
theorem dX1_fewest_24 : decode cX1_fewest 24 = .ok (.istore 5, 2) := by decide +kernel
theorem dX1_fewest_26 : decode cX1_fewest 26 = .ok (.iload 5, 2) := by decide +kernel
theorem dX1_fewest_28 : decode cX1_fewest 28 = .ok (.iload_n 3, 1) := by decide +kernel
theorem dX1_fewest_29 : decode cX1_fewest 29 = .ok (.if_icmp .ge 18, 3) := by decide +kernel
theorem dX1_fewest_32 : decode cX1_fewest 32 = .ok (.aload_n 0, 1) := by decide +kernel
theorem dX1_fewest_33 : decode cX1_fewest 33 = .ok (.iload 4, 2) := by decide +kernel
theorem dX1_fewest_35 : decode cX1_fewest 35 = .ok (.invokevirtual 25, 3) := by decide +kernel
theorem dX1_fewest_38 : decode cX1_fewest 38 = .ok (.ifCond .eq 9, 3) := by decide +kernel
theorem dX1_fewest_41 : decode cX1_fewest 41 = .ok (.iload 4, 2) := by decide +kernel
theorem dX1_fewest_43 : decode cX1_fewest 43 = .ok (.istore_n 2, 1) := by decide +kernel
theorem dX1_fewest_44 : decode cX1_fewest 44 = .ok (.iload 5, 2) := by decide +kernel
theorem dX1_fewest_46 : decode cX1_fewest 46 = .ok (.istore_n 3, 1) := by decide +kernel
theorem dX1_fewest_47 : decode cX1_fewest 47 = .ok (.iinc 4 1, 3) := by decide +kernel
theorem dX1_fewest_50 : decode cX1_fewest 50 = .ok (.goto (-39), 3) := by decide +kernel
theorem dX1_fewest_53 : decode cX1_fewest 53 = .ok (.iload_n 2, 1) := by decide +kernel
theorem dX1_fewest_54 : decode cX1_fewest 54 = .ok (.ireturn, 1) := by decide +kernel
theorem dX1_isEnough_0 : decode cX1_isEnough 0 = .ok (.iconst 0, 1) := by decide +kernel
theorem dX1_isEnough_1 : decode cX1_isEnough 1 = .ok (.istore_n 2, 1) := by decide +kernel
theorem dX1_isEnough_2 : decode cX1_isEnough 2 = .ok (.iload_n 2, 1) := by decide +kernel
theorem dX1_isEnough_3 : decode cX1_isEnough 3 = .ok (.aload_n 0, 1) := by decide +kernel
theorem dX1_isEnough_4 : decode cX1_isEnough 4 = .ok (.getfield 15, 3) := by decide +kernel
theorem dX1_isEnough_7 : decode cX1_isEnough 7 = .ok (.if_icmp .ge 22, 3) := by decide +kernel
theorem dX1_isEnough_10 : decode cX1_isEnough 10 = .ok (.aload_n 0, 1) := by decide +kernel
theorem dX1_isEnough_11 : decode cX1_isEnough 11 = .ok (.getfield 9, 3) := by decide +kernel
theorem dX1_isEnough_14 : decode cX1_isEnough 14 = .ok (.iload_n 2, 1) := by decide +kernel
theorem dX1_isEnough_15 : decode cX1_isEnough 15 = .ok (.iaload, 1) := by decide +kernel
theorem dX1_isEnough_16 : decode cX1_isEnough 16 = .ok (.iload_n 1, 1) := by decide +kernel
theorem dX1_isEnough_17 : decode cX1_isEnough 17 = .ok (.iand, 1) := by decide +kernel
theorem dX1_isEnough_18 : decode cX1_isEnough 18 = .ok (.ifCond .ne 5, 3) := by decide +kernel
theorem dX1_isEnough_21 : decode cX1_isEnough 21 = .ok (.iconst 0, 1) := by decide +kernel
theorem dX1_isEnough_22 : decode cX1_isEnough 22 = .ok (.ireturn, 1) := by decide +kernel
theorem dX1_isEnough_23 : decode cX1_isEnough 23 = .ok (.iinc 2 1, 3) := by decide +kernel
theorem dX1_isEnough_26 : decode cX1_isEnough 26 = .ok (.goto (-24), 3) := by decide +kernel
theorem dX1_isEnough_29 : decode cX1_isEnough 29 = .ok (.iconst 1, 1) := by decide +kernel
theorem dX1_isEnough_30 : decode cX1_isEnough 30 = .ok (.ireturn, 1) := by decide +kernel
theorem dX2_init_0 : decode cX2_init 0 = .ok (.aload_n 0, 1) := by decide +kernel
theorem dX2_init_1 : decode cX2_init 1 = .ok (.invokespecial 3, 3) := by decide +kernel
theorem dX2_init_4 : decode cX2_init 4 = .ok (.aload_n 0, 1) := by decide +kernel
theorem dX2_init_5 : decode cX2_init 5 = .ok (.aload_n 1, 1) := by decide +kernel
theorem dX2_init_6 : decode cX2_init 6 = .ok (.putfield 9, 3) := by decide +kernel
theorem dX2_init_9 : decode cX2_init 9 = .ok (.aload_n 0, 1) := by decide +kernel
theorem dX2_init_10 : decode cX2_init 10 = .ok (.aload_n 2, 1) := by decide +kernel
theorem dX2_init_11 : decode cX2_init 11 = .ok (.putfield 15, 3) := by decide +kernel
theorem dX2_init_14 : decode cX2_init 14 = .ok (.aload_n 0, 1) := by decide +kernel
theorem dX2_init_15 : decode cX2_init 15 = .ok (.bipush 72, 2) := by decide +kernel
theorem dX2_init_17 : decode cX2_init 17 = .ok (.newarray .boolean, 2) := by decide +kernel
theorem dX2_init_19 : decode cX2_init 19 = .ok (.putfield 19, 3) := by decide +kernel
theorem dX2_init_22 : decode cX2_init 22 = .ok (.aload_n 0, 1) := by decide +kernel
theorem dX2_init_23 : decode cX2_init 23 = .ok (.bipush 72, 2) := by decide +kernel
theorem dX2_init_25 : decode cX2_init 25 = .ok (.newarray .int, 2) := by decide +kernel
theorem dX2_init_27 : decode cX2_init 27 = .ok (.putfield 23, 3) := by decide +kernel
theorem dX2_init_30 : decode cX2_init 30 = .ok (.aload_n 0, 1) := by decide +kernel
theorem dX2_init_31 : decode cX2_init 31 = .ok (.bipush 72, 2) := by decide +kernel
theorem dX2_init_33 : decode cX2_init 33 = .ok (.newarray .int, 2) := by decide +kernel
theorem dX2_init_35 : decode cX2_init 35 = .ok (.putfield 27, 3) := by decide +kernel
theorem dX2_init_38 : decode cX2_init 38 = .ok (.return_, 1) := by decide +kernel
theorem dX2_forget_0 : decode cX2_forget 0 = .ok (.iload_n 1, 1) := by decide +kernel
theorem dX2_forget_1 : decode cX2_forget 1 = .ok (.ifCond .lt 35, 3) := by decide +kernel
theorem dX2_forget_4 : decode cX2_forget 4 = .ok (.iload_n 1, 1) := by decide +kernel
theorem dX2_forget_5 : decode cX2_forget 5 = .ok (.bipush 6, 2) := by decide +kernel
theorem dX2_forget_7 : decode cX2_forget 7 = .ok (.if_icmp .ge 29, 3) := by decide +kernel
theorem dX2_forget_10 : decode cX2_forget 10 = .ok (.iconst 0, 1) := by decide +kernel
theorem dX2_forget_11 : decode cX2_forget 11 = .ok (.istore_n 2, 1) := by decide +kernel
theorem dX2_forget_12 : decode cX2_forget 12 = .ok (.iload_n 2, 1) := by decide +kernel
theorem dX2_forget_13 : decode cX2_forget 13 = .ok (.bipush 12, 2) := by decide +kernel
theorem dX2_forget_15 : decode cX2_forget 15 = .ok (.if_icmp .ge 21, 3) := by decide +kernel
theorem dX2_forget_18 : decode cX2_forget 18 = .ok (.aload_n 0, 1) := by decide +kernel
theorem dX2_forget_19 : decode cX2_forget 19 = .ok (.getfield 19, 3) := by decide +kernel
theorem dX2_forget_22 : decode cX2_forget 22 = .ok (.iload_n 1, 1) := by decide +kernel
theorem dX2_forget_23 : decode cX2_forget 23 = .ok (.bipush 12, 2) := by decide +kernel
theorem dX2_forget_25 : decode cX2_forget 25 = .ok (.imul, 1) := by decide +kernel
theorem dX2_forget_26 : decode cX2_forget 26 = .ok (.iload_n 2, 1) := by decide +kernel
theorem dX2_forget_27 : decode cX2_forget 27 = .ok (.iadd, 1) := by decide +kernel
theorem dX2_forget_28 : decode cX2_forget 28 = .ok (.iconst 0, 1) := by decide +kernel
theorem dX2_forget_29 : decode cX2_forget 29 = .ok (.bastore, 1) := by decide +kernel
theorem dX2_forget_30 : decode cX2_forget 30 = .ok (.iinc 2 1, 3) := by decide +kernel
theorem dX2_forget_33 : decode cX2_forget 33 = .ok (.goto (-21), 3) := by decide +kernel
theorem dX2_forget_36 : decode cX2_forget 36 = .ok (.return_, 1) := by decide +kernel
theorem dX2_forgetAll_0 : decode cX2_forgetAll 0 = .ok (.iconst 0, 1) := by decide +kernel
theorem dX2_forgetAll_1 : decode cX2_forgetAll 1 = .ok (.istore_n 1, 1) := by decide +kernel
theorem dX2_forgetAll_2 : decode cX2_forgetAll 2 = .ok (.iload_n 1, 1) := by decide +kernel
theorem dX2_forgetAll_3 : decode cX2_forgetAll 3 = .ok (.bipush 6, 2) := by decide +kernel
theorem dX2_forgetAll_5 : decode cX2_forgetAll 5 = .ok (.if_icmp .ge 14, 3) := by decide +kernel
theorem dX2_forgetAll_8 : decode cX2_forgetAll 8 = .ok (.aload_n 0, 1) := by decide +kernel
theorem dX2_forgetAll_9 : decode cX2_forgetAll 9 = .ok (.iload_n 1, 1) := by decide +kernel
theorem dX2_forgetAll_10 : decode cX2_forgetAll 10 = .ok (.invokevirtual 30, 3) := by decide +kernel
theorem dX2_forgetAll_13 : decode cX2_forgetAll 13 = .ok (.iinc 1 1, 3) := by decide +kernel
theorem dX2_forgetAll_16 : decode cX2_forgetAll 16 = .ok (.goto (-14), 3) := by decide +kernel
theorem dX2_forgetAll_19 : decode cX2_forgetAll 19 = .ok (.return_, 1) := by decide +kernel
theorem dX2_learn_0 : decode cX2_learn 0 = .ok (.aload_n 0, 1) := by decide +kernel
theorem dX2_learn_1 : decode cX2_learn 1 = .ok (.getfield 9, 3) := by decide +kernel
theorem dX2_learn_4 : decode cX2_learn 4 = .ok (.iload_n 1, 1) := by decide +kernel
theorem dX2_learn_5 : decode cX2_learn 5 = .ok (.invokevirtual 34, 3) := by decide +kernel
theorem dX2_learn_8 : decode cX2_learn 8 = .ok (.ifCond .eq 14, 3) := by decide +kernel
theorem dX2_learn_11 : decode cX2_learn 11 = .ok (.aload_n 0, 1) := by decide +kernel
theorem dX2_learn_12 : decode cX2_learn 12 = .ok (.getfield 9, 3) := by decide +kernel
theorem dX2_learn_15 : decode cX2_learn 15 = .ok (.iload_n 2, 1) := by decide +kernel
theorem dX2_learn_16 : decode cX2_learn 16 = .ok (.invokevirtual 40, 3) := by decide +kernel
theorem dX2_learn_19 : decode cX2_learn 19 = .ok (.ifCond .ne 4, 3) := by decide +kernel
theorem dX2_learn_22 : decode cX2_learn 22 = .ok (.return_, 1) := by decide +kernel
theorem dX2_learn_23 : decode cX2_learn 23 = .ok (.iload_n 2, 1) := by decide +kernel
theorem dX2_learn_24 : decode cX2_learn 24 = .ok (.bipush 12, 2) := by decide +kernel
theorem dX2_learn_26 : decode cX2_learn 26 = .ok (.imul, 1) := by decide +kernel
theorem dX2_learn_27 : decode cX2_learn 27 = .ok (.iload_n 1, 1) := by decide +kernel
theorem dX2_learn_28 : decode cX2_learn 28 = .ok (.iadd, 1) := by decide +kernel
theorem dX2_learn_29 : decode cX2_learn 29 = .ok (.istore_n 3, 1) := by decide +kernel
theorem dX2_learn_30 : decode cX2_learn 30 = .ok (.aload_n 0, 1) := by decide +kernel
theorem dX2_learn_31 : decode cX2_learn 31 = .ok (.getfield 19, 3) := by decide +kernel
theorem dX2_learn_34 : decode cX2_learn 34 = .ok (.iload_n 3, 1) := by decide +kernel
theorem dX2_learn_35 : decode cX2_learn 35 = .ok (.baload, 1) := by decide +kernel
theorem dX2_learn_36 : decode cX2_learn 36 = .ok (.ifCond .ne 57, 3) := by decide +kernel
theorem dX2_learn_39 : decode cX2_learn 39 = .ok (.aload_n 0, 1) := by decide +kernel
theorem dX2_learn_40 : decode cX2_learn 40 = .ok (.getfield 15, 3) := by decide +kernel
theorem dX2_learn_43 : decode cX2_learn 43 = .ok (.aload_n 0, 1) := by decide +kernel
theorem dX2_learn_44 : decode cX2_learn 44 = .ok (.getfield 9, 3) := by decide +kernel
theorem dX2_learn_47 : decode cX2_learn 47 = .ok (.iload_n 2, 1) := by decide +kernel
theorem dX2_learn_48 : decode cX2_learn 48 = .ok (.invokevirtual 43, 3) := by decide +kernel
theorem dX2_learn_51 : decode cX2_learn 51 = .ok (.aload_n 0, 1) := by decide +kernel
theorem dX2_learn_52 : decode cX2_learn 52 = .ok (.getfield 23, 3) := by decide +kernel
theorem dX2_learn_55 : decode cX2_learn 55 = .ok (.iload_n 3, 1) := by decide +kernel
theorem dX2_learn_56 : decode cX2_learn 56 = .ok (.aload_n 0, 1) := by decide +kernel
theorem dX2_learn_57 : decode cX2_learn 57 = .ok (.getfield 15, 3) := by decide +kernel
theorem dX2_learn_60 : decode cX2_learn 60 = .ok (.aload_n 0, 1) := by decide +kernel
theorem dX2_learn_61 : decode cX2_learn 61 = .ok (.getfield 9, 3) := by decide +kernel
theorem dX2_learn_64 : decode cX2_learn 64 = .ok (.iload_n 1, 1) := by decide +kernel
theorem dX2_learn_65 : decode cX2_learn 65 = .ok (.invokevirtual 49, 3) := by decide +kernel
theorem dX2_learn_68 : decode cX2_learn 68 = .ok (.iconst 0, 1) := by decide +kernel
theorem dX2_learn_69 : decode cX2_learn 69 = .ok (.invokevirtual 53, 3) := by decide +kernel
theorem dX2_learn_72 : decode cX2_learn 72 = .ok (.iastore, 1) := by decide +kernel
theorem dX2_learn_73 : decode cX2_learn 73 = .ok (.aload_n 0, 1) := by decide +kernel
theorem dX2_learn_74 : decode cX2_learn 74 = .ok (.getfield 27, 3) := by decide +kernel
theorem dX2_learn_77 : decode cX2_learn 77 = .ok (.iload_n 3, 1) := by decide +kernel
theorem dX2_learn_78 : decode cX2_learn 78 = .ok (.aload_n 0, 1) := by decide +kernel
theorem dX2_learn_79 : decode cX2_learn 79 = .ok (.getfield 15, 3) := by decide +kernel
theorem dX2_learn_82 : decode cX2_learn 82 = .ok (.invokevirtual 57, 3) := by decide +kernel
theorem dX2_learn_85 : decode cX2_learn 85 = .ok (.iastore, 1) := by decide +kernel
theorem dX2_learn_86 : decode cX2_learn 86 = .ok (.aload_n 0, 1) := by decide +kernel
theorem dX2_learn_87 : decode cX2_learn 87 = .ok (.getfield 19, 3) := by decide +kernel
theorem dX2_learn_90 : decode cX2_learn 90 = .ok (.iload_n 3, 1) := by decide +kernel
theorem dX2_learn_91 : decode cX2_learn 91 = .ok (.iconst 1, 1) := by decide +kernel
theorem dX2_learn_92 : decode cX2_learn 92 = .ok (.bastore, 1) := by decide +kernel
theorem dX2_learn_93 : decode cX2_learn 93 = .ok (.return_, 1) := by decide +kernel
theorem dX2_learnAll_0 : decode cX2_learnAll 0 = .ok (.iconst 0, 1) := by decide +kernel
theorem dX2_learnAll_1 : decode cX2_learnAll 1 = .ok (.istore_n 2, 1) := by decide +kernel
theorem dX2_learnAll_2 : decode cX2_learnAll 2 = .ok (.iload_n 2, 1) := by decide +kernel
theorem dX2_learnAll_3 : decode cX2_learnAll 3 = .ok (.aload_n 0, 1) := by decide +kernel
theorem dX2_learnAll_4 : decode cX2_learnAll 4 = .ok (.getfield 9, 3) := by decide +kernel
theorem dX2_learnAll_7 : decode cX2_learnAll 7 = .ok (.invokevirtual 61, 3) := by decide +kernel
theorem dX2_learnAll_10 : decode cX2_learnAll 10 = .ok (.if_icmp .ge 15, 3) := by decide +kernel
theorem dX2_learnAll_13 : decode cX2_learnAll 13 = .ok (.aload_n 0, 1) := by decide +kernel
theorem dX2_learnAll_14 : decode cX2_learnAll 14 = .ok (.iload_n 2, 1) := by decide +kernel
theorem dX2_learnAll_15 : decode cX2_learnAll 15 = .ok (.iload_n 1, 1) := by decide +kernel
theorem dX2_learnAll_16 : decode cX2_learnAll 16 = .ok (.invokevirtual 64, 3) := by decide +kernel
theorem dX2_learnAll_19 : decode cX2_learnAll 19 = .ok (.iinc 2 1, 3) := by decide +kernel
theorem dX2_learnAll_22 : decode cX2_learnAll 22 = .ok (.goto (-20), 3) := by decide +kernel
theorem dX2_learnAll_25 : decode cX2_learnAll 25 = .ok (.return_, 1) := by decide +kernel
theorem dX2_of_0 : decode cX2_of 0 = .ok (.aload_n 0, 1) := by decide +kernel
theorem dX2_of_1 : decode cX2_of 1 = .ok (.getfield 9, 3) := by decide +kernel
theorem dX2_of_4 : decode cX2_of 4 = .ok (.iload_n 1, 1) := by decide +kernel
theorem dX2_of_5 : decode cX2_of 5 = .ok (.invokevirtual 34, 3) := by decide +kernel
theorem dX2_of_8 : decode cX2_of 8 = .ok (.ifCond .eq 28, 3) := by decide +kernel
theorem dX2_of_11 : decode cX2_of 11 = .ok (.aload_n 0, 1) := by decide +kernel
theorem dX2_of_12 : decode cX2_of 12 = .ok (.getfield 9, 3) := by decide +kernel
theorem dX2_of_15 : decode cX2_of 15 = .ok (.iload_n 2, 1) := by decide +kernel
theorem dX2_of_16 : decode cX2_of 16 = .ok (.invokevirtual 40, 3) := by decide +kernel
theorem dX2_of_19 : decode cX2_of 19 = .ok (.ifCond .eq 17, 3) := by decide +kernel
theorem dX2_of_22 : decode cX2_of 22 = .ok (.aload_n 0, 1) := by decide +kernel
theorem dX2_of_23 : decode cX2_of 23 = .ok (.getfield 23, 3) := by decide +kernel
theorem dX2_of_26 : decode cX2_of 26 = .ok (.iload_n 2, 1) := by decide +kernel
theorem dX2_of_27 : decode cX2_of 27 = .ok (.bipush 12, 2) := by decide +kernel
theorem dX2_of_29 : decode cX2_of 29 = .ok (.imul, 1) := by decide +kernel
theorem dX2_of_30 : decode cX2_of 30 = .ok (.iload_n 1, 1) := by decide +kernel
theorem dX2_of_31 : decode cX2_of 31 = .ok (.iadd, 1) := by decide +kernel
theorem dX2_of_32 : decode cX2_of 32 = .ok (.iaload, 1) := by decide +kernel
theorem dX2_of_33 : decode cX2_of 33 = .ok (.goto 5, 3) := by decide +kernel
theorem dX2_of_36 : decode cX2_of 36 = .ok (.bipush (-6), 2) := by decide +kernel
theorem dX2_of_38 : decode cX2_of 38 = .ok (.ireturn, 1) := by decide +kernel
theorem dX2_used_0 : decode cX2_used 0 = .ok (.aload_n 0, 1) := by decide +kernel
theorem dX2_used_1 : decode cX2_used 1 = .ok (.getfield 9, 3) := by decide +kernel
theorem dX2_used_4 : decode cX2_used 4 = .ok (.iload_n 1, 1) := by decide +kernel
theorem dX2_used_5 : decode cX2_used 5 = .ok (.invokevirtual 34, 3) := by decide +kernel
theorem dX2_used_8 : decode cX2_used 8 = .ok (.ifCond .eq 28, 3) := by decide +kernel
theorem dX2_used_11 : decode cX2_used 11 = .ok (.aload_n 0, 1) := by decide +kernel
theorem dX2_used_12 : decode cX2_used 12 = .ok (.getfield 9, 3) := by decide +kernel
theorem dX2_used_15 : decode cX2_used 15 = .ok (.iload_n 2, 1) := by decide +kernel
theorem dX2_used_16 : decode cX2_used 16 = .ok (.invokevirtual 40, 3) := by decide +kernel
theorem dX2_used_19 : decode cX2_used 19 = .ok (.ifCond .eq 17, 3) := by decide +kernel
theorem dX2_used_22 : decode cX2_used 22 = .ok (.aload_n 0, 1) := by decide +kernel
theorem dX2_used_23 : decode cX2_used 23 = .ok (.getfield 27, 3) := by decide +kernel
theorem dX2_used_26 : decode cX2_used 26 = .ok (.iload_n 2, 1) := by decide +kernel
theorem dX2_used_27 : decode cX2_used 27 = .ok (.bipush 12, 2) := by decide +kernel
theorem dX2_used_29 : decode cX2_used 29 = .ok (.imul, 1) := by decide +kernel
theorem dX2_used_30 : decode cX2_used 30 = .ok (.iload_n 1, 1) := by decide +kernel
theorem dX2_used_31 : decode cX2_used 31 = .ok (.iadd, 1) := by decide +kernel
theorem dX2_used_32 : decode cX2_used 32 = .ok (.iaload, 1) := by decide +kernel
theorem dX2_used_33 : decode cX2_used 33 = .ok (.goto 4, 3) := by decide +kernel
theorem dX2_used_36 : decode cX2_used 36 = .ok (.iconst 0, 1) := by decide +kernel
theorem dX2_used_37 : decode cX2_used 37 = .ok (.ireturn, 1) := by decide +kernel
theorem dX2_holds_0 : decode cX2_holds 0 = .ok (.aload_n 0, 1) := by decide +kernel
theorem dX2_holds_1 : decode cX2_holds 1 = .ok (.getfield 9, 3) := by decide +kernel
theorem dX2_holds_4 : decode cX2_holds 4 = .ok (.iload_n 1, 1) := by decide +kernel
theorem dX2_holds_5 : decode cX2_holds 5 = .ok (.invokevirtual 34, 3) := by decide +kernel
theorem dX2_holds_8 : decode cX2_holds 8 = .ok (.ifCond .eq 40, 3) := by decide +kernel
theorem dX2_holds_11 : decode cX2_holds 11 = .ok (.aload_n 0, 1) := by decide +kernel
theorem dX2_holds_12 : decode cX2_holds 12 = .ok (.getfield 9, 3) := by decide +kernel
theorem dX2_holds_15 : decode cX2_holds 15 = .ok (.iload_n 2, 1) := by decide +kernel
theorem dX2_holds_16 : decode cX2_holds 16 = .ok (.invokevirtual 40, 3) := by decide +kernel
theorem dX2_holds_19 : decode cX2_holds 19 = .ok (.ifCond .eq 29, 3) := by decide +kernel
theorem dX2_holds_22 : decode cX2_holds 22 = .ok (.aload_n 0, 1) := by decide +kernel
theorem dX2_holds_23 : decode cX2_holds 23 = .ok (.getfield 23, 3) := by decide +kernel
theorem dX2_holds_26 : decode cX2_holds 26 = .ok (.iload_n 2, 1) := by decide +kernel
theorem dX2_holds_27 : decode cX2_holds 27 = .ok (.bipush 12, 2) := by decide +kernel
theorem dX2_holds_29 : decode cX2_holds 29 = .ok (.imul, 1) := by decide +kernel
theorem dX2_holds_30 : decode cX2_holds 30 = .ok (.iload_n 1, 1) := by decide +kernel
theorem dX2_holds_31 : decode cX2_holds 31 = .ok (.iadd, 1) := by decide +kernel
theorem dX2_holds_32 : decode cX2_holds 32 = .ok (.iaload, 1) := by decide +kernel
theorem dX2_holds_33 : decode cX2_holds 33 = .ok (.aload_n 0, 1) := by decide +kernel
theorem dX2_holds_34 : decode cX2_holds 34 = .ok (.getfield 9, 3) := by decide +kernel
theorem dX2_holds_37 : decode cX2_holds 37 = .ok (.iload_n 1, 1) := by decide +kernel
theorem dX2_holds_38 : decode cX2_holds 38 = .ok (.invokevirtual 68, 3) := by decide +kernel
theorem dX2_holds_41 : decode cX2_holds 41 = .ok (.if_icmp .ne 7, 3) := by decide +kernel
theorem dX2_holds_44 : decode cX2_holds 44 = .ok (.iconst 1, 1) := by decide +kernel
theorem dX2_holds_45 : decode cX2_holds 45 = .ok (.goto 4, 3) := by decide +kernel
theorem dX2_holds_48 : decode cX2_holds 48 = .ok (.iconst 0, 1) := by decide +kernel
theorem dX2_holds_49 : decode cX2_holds 49 = .ok (.ireturn, 1) := by decide +kernel
theorem dX2_holding_0 : decode cX2_holding 0 = .ok (.iconst 0, 1) := by decide +kernel
theorem dX2_holding_1 : decode cX2_holding 1 = .ok (.istore_n 2, 1) := by decide +kernel
theorem dX2_holding_2 : decode cX2_holding 2 = .ok (.iconst 0, 1) := by decide +kernel
theorem dX2_holding_3 : decode cX2_holding 3 = .ok (.istore_n 3, 1) := by decide +kernel
theorem dX2_holding_4 : decode cX2_holding 4 = .ok (.iload_n 3, 1) := by decide +kernel
theorem dX2_holding_5 : decode cX2_holding 5 = .ok (.aload_n 0, 1) := by decide +kernel
theorem dX2_holding_6 : decode cX2_holding 6 = .ok (.getfield 9, 3) := by decide +kernel
theorem dX2_holding_9 : decode cX2_holding 9 = .ok (.invokevirtual 61, 3) := by decide +kernel
theorem dX2_holding_12 : decode cX2_holding 12 = .ok (.if_icmp .ge 24, 3) := by decide +kernel
theorem dX2_holding_15 : decode cX2_holding 15 = .ok (.aload_n 0, 1) := by decide +kernel
theorem dX2_holding_16 : decode cX2_holding 16 = .ok (.iload_n 3, 1) := by decide +kernel
theorem dX2_holding_17 : decode cX2_holding 17 = .ok (.iload_n 1, 1) := by decide +kernel
theorem dX2_holding_18 : decode cX2_holding 18 = .ok (.invokevirtual 72, 3) := by decide +kernel
theorem dX2_holding_21 : decode cX2_holding 21 = .ok (.ifCond .eq 9, 3) := by decide +kernel
theorem dX2_holding_24 : decode cX2_holding 24 = .ok (.iload_n 2, 1) := by decide +kernel
theorem dX2_holding_25 : decode cX2_holding 25 = .ok (.iconst 1, 1) := by decide +kernel
theorem dX2_holding_26 : decode cX2_holding 26 = .ok (.iload_n 3, 1) := by decide +kernel
theorem dX2_holding_27 : decode cX2_holding 27 = .ok (.ishl, 1) := by decide +kernel
theorem dX2_holding_28 : decode cX2_holding 28 = .ok (.ior, 1) := by decide +kernel
theorem dX2_holding_29 : decode cX2_holding 29 = .ok (.istore_n 2, 1) := by decide +kernel
theorem dX2_holding_30 : decode cX2_holding 30 = .ok (.iinc 3 1, 3) := by decide +kernel
theorem dX2_holding_33 : decode cX2_holding 33 = .ok (.goto (-29), 3) := by decide +kernel
theorem dX2_holding_36 : decode cX2_holding 36 = .ok (.iload_n 2, 1) := by decide +kernel
theorem dX2_holding_37 : decode cX2_holding 37 = .ok (.ireturn, 1) := by decide +kernel
theorem dX2_users_0 : decode cX2_users 0 = .ok (.iconst 0, 1) := by decide +kernel
theorem dX2_users_1 : decode cX2_users 1 = .ok (.istore_n 3, 1) := by decide +kernel
theorem dX2_users_2 : decode cX2_users 2 = .ok (.iconst 0, 1) := by decide +kernel
theorem dX2_users_3 : decode cX2_users 3 = .ok (.istore 4, 2) := by decide +kernel
theorem dX2_users_5 : decode cX2_users 5 = .ok (.iload 4, 2) := by decide +kernel
theorem dX2_users_7 : decode cX2_users 7 = .ok (.aload_n 0, 1) := by decide +kernel
theorem dX2_users_8 : decode cX2_users 8 = .ok (.getfield 9, 3) := by decide +kernel
theorem dX2_users_11 : decode cX2_users 11 = .ok (.invokevirtual 61, 3) := by decide +kernel
theorem dX2_users_14 : decode cX2_users 14 = .ok (.if_icmp .ge 31, 3) := by decide +kernel
theorem dX2_users_17 : decode cX2_users 17 = .ok (.aload_n 0, 1) := by decide +kernel
theorem dX2_users_18 : decode cX2_users 18 = .ok (.iload 4, 2) := by decide +kernel
theorem dX2_users_20 : decode cX2_users 20 = .ok (.iload_n 2, 1) := by decide +kernel
theorem dX2_users_21 : decode cX2_users 21 = .ok (.invokevirtual 76, 3) := by decide +kernel
theorem dX2_users_24 : decode cX2_users 24 = .ok (.iload_n 1, 1) := by decide +kernel
theorem dX2_users_25 : decode cX2_users 25 = .ok (.ishr, 1) := by decide +kernel
theorem dX2_users_26 : decode cX2_users 26 = .ok (.iconst 1, 1) := by decide +kernel
theorem dX2_users_27 : decode cX2_users 27 = .ok (.iand, 1) := by decide +kernel
theorem dX2_users_28 : decode cX2_users 28 = .ok (.iconst 1, 1) := by decide +kernel
theorem dX2_users_29 : decode cX2_users 29 = .ok (.if_icmp .ne 10, 3) := by decide +kernel
theorem dX2_users_32 : decode cX2_users 32 = .ok (.iload_n 3, 1) := by decide +kernel
theorem dX2_users_33 : decode cX2_users 33 = .ok (.iconst 1, 1) := by decide +kernel
theorem dX2_users_34 : decode cX2_users 34 = .ok (.iload 4, 2) := by decide +kernel
theorem dX2_users_36 : decode cX2_users 36 = .ok (.ishl, 1) := by decide +kernel
theorem dX2_users_37 : decode cX2_users 37 = .ok (.ior, 1) := by decide +kernel
theorem dX2_users_38 : decode cX2_users 38 = .ok (.istore_n 3, 1) := by decide +kernel
theorem dX2_users_39 : decode cX2_users 39 = .ok (.iinc 4 1, 3) := by decide +kernel
theorem dX2_users_42 : decode cX2_users 42 = .ok (.goto (-37), 3) := by decide +kernel
theorem dX2_users_45 : decode cX2_users 45 = .ok (.iload_n 3, 1) := by decide +kernel
theorem dX2_users_46 : decode cX2_users 46 = .ok (.ireturn, 1) := by decide +kernel
theorem dX3_init_0 : decode cX3_init 0 = .ok (.aload_n 0, 1) := by decide +kernel
theorem dX3_init_1 : decode cX3_init 1 = .ok (.invokespecial 3, 3) := by decide +kernel
theorem dX3_init_4 : decode cX3_init 4 = .ok (.aload_n 0, 1) := by decide +kernel
theorem dX3_init_5 : decode cX3_init 5 = .ok (.bipush 8, 2) := by decide +kernel
theorem dX3_init_7 : decode cX3_init 7 = .ok (.anewarray 9, 3) := by decide +kernel
theorem dX3_init_10 : decode cX3_init 10 = .ok (.putfield 11, 3) := by decide +kernel
theorem dX3_init_13 : decode cX3_init 13 = .ok (.iconst 0, 1) := by decide +kernel
theorem dX3_init_14 : decode cX3_init 14 = .ok (.istore_n 2, 1) := by decide +kernel
theorem dX3_init_15 : decode cX3_init 15 = .ok (.iload_n 2, 1) := by decide +kernel
theorem dX3_init_16 : decode cX3_init 16 = .ok (.bipush 8, 2) := by decide +kernel
theorem dX3_init_18 : decode cX3_init 18 = .ok (.if_icmp .ge 16, 3) := by decide +kernel
theorem dX3_init_21 : decode cX3_init 21 = .ok (.aload_n 0, 1) := by decide +kernel
theorem dX3_init_22 : decode cX3_init 22 = .ok (.getfield 11, 3) := by decide +kernel
theorem dX3_init_25 : decode cX3_init 25 = .ok (.iload_n 2, 1) := by decide +kernel
theorem dX3_init_26 : decode cX3_init 26 = .ok (.aload_n 1, 1) := by decide +kernel
theorem dX3_init_27 : decode cX3_init 27 = .ok (.aastore, 1) := by decide +kernel
theorem dX3_init_28 : decode cX3_init 28 = .ok (.iinc 2 1, 3) := by decide +kernel
theorem dX3_init_31 : decode cX3_init 31 = .ok (.goto (-16), 3) := by decide +kernel
theorem dX3_init_34 : decode cX3_init 34 = .ok (.return_, 1) := by decide +kernel
theorem dX3_take_0 : decode cX3_take 0 = .ok (.iconst 0, 1) := by decide +kernel
theorem dX3_take_1 : decode cX3_take 1 = .ok (.istore_n 3, 1) := by decide +kernel
theorem dX3_take_2 : decode cX3_take 2 = .ok (.iload_n 3, 1) := by decide +kernel
theorem dX3_take_3 : decode cX3_take 3 = .ok (.bipush 8, 2) := by decide +kernel
theorem dX3_take_5 : decode cX3_take 5 = .ok (.if_icmp .ge 21, 3) := by decide +kernel
theorem dX3_take_8 : decode cX3_take 8 = .ok (.aload_n 0, 1) := by decide +kernel
theorem dX3_take_9 : decode cX3_take 9 = .ok (.getfield 11, 3) := by decide +kernel
theorem dX3_take_12 : decode cX3_take 12 = .ok (.iload_n 3, 1) := by decide +kernel
theorem dX3_take_13 : decode cX3_take 13 = .ok (.aload_n 1, 1) := by decide +kernel
theorem dX3_take_14 : decode cX3_take 14 = .ok (.iload_n 2, 1) := by decide +kernel
theorem dX3_take_15 : decode cX3_take 15 = .ok (.iload_n 3, 1) := by decide +kernel
theorem dX3_take_16 : decode cX3_take 16 = .ok (.invokevirtual 17, 3) := by decide +kernel
theorem dX3_take_19 : decode cX3_take 19 = .ok (.aastore, 1) := by decide +kernel
theorem dX3_take_20 : decode cX3_take 20 = .ok (.iinc 3 1, 3) := by decide +kernel
theorem dX3_take_23 : decode cX3_take 23 = .ok (.goto (-21), 3) := by decide +kernel
theorem dX3_take_26 : decode cX3_take 26 = .ok (.return_, 1) := by decide +kernel
theorem dX3_replace_0 : decode cX3_replace 0 = .ok (.iload_n 1, 1) := by decide +kernel
theorem dX3_replace_1 : decode cX3_replace 1 = .ok (.invokestatic 23, 3) := by decide +kernel
theorem dX3_replace_4 : decode cX3_replace 4 = .ok (.ifCond .eq 10, 3) := by decide +kernel
theorem dX3_replace_7 : decode cX3_replace 7 = .ok (.aload_n 0, 1) := by decide +kernel
theorem dX3_replace_8 : decode cX3_replace 8 = .ok (.getfield 11, 3) := by decide +kernel
theorem dX3_replace_11 : decode cX3_replace 11 = .ok (.iload_n 1, 1) := by decide +kernel
theorem dX3_replace_12 : decode cX3_replace 12 = .ok (.aload_n 2, 1) := by decide +kernel
theorem dX3_replace_13 : decode cX3_replace 13 = .ok (.aastore, 1) := by decide +kernel
theorem dX3_replace_14 : decode cX3_replace 14 = .ok (.return_, 1) := by decide +kernel
theorem dX3_outcome_0 : decode cX3_outcome 0 = .ok (.aload_n 0, 1) := by decide +kernel
theorem dX3_outcome_1 : decode cX3_outcome 1 = .ok (.iconst 0, 1) := by decide +kernel
theorem dX3_outcome_2 : decode cX3_outcome 2 = .ok (.putfield 27, 3) := by decide +kernel
theorem dX3_outcome_5 : decode cX3_outcome 5 = .ok (.aload_n 0, 1) := by decide +kernel
theorem dX3_outcome_6 : decode cX3_outcome 6 = .ok (.iconst 0, 1) := by decide +kernel
theorem dX3_outcome_7 : decode cX3_outcome 7 = .ok (.putfield 31, 3) := by decide +kernel
theorem dX3_outcome_10 : decode cX3_outcome 10 = .ok (.aload_n 0, 1) := by decide +kernel
theorem dX3_outcome_11 : decode cX3_outcome 11 = .ok (.iconst 0, 1) := by decide +kernel
theorem dX3_outcome_12 : decode cX3_outcome 12 = .ok (.putfield 34, 3) := by decide +kernel
theorem dX3_outcome_15 : decode cX3_outcome 15 = .ok (.aload_n 0, 1) := by decide +kernel
theorem dX3_outcome_16 : decode cX3_outcome 16 = .ok (.iconst 0, 1) := by decide +kernel
theorem dX3_outcome_17 : decode cX3_outcome 17 = .ok (.putfield 37, 3) := by decide +kernel
theorem dX3_outcome_20 : decode cX3_outcome 20 = .ok (.aload_n 0, 1) := by decide +kernel
theorem dX3_outcome_21 : decode cX3_outcome 21 = .ok (.aload_n 1, 1) := by decide +kernel
theorem dX3_outcome_22 : decode cX3_outcome 22 = .ok (.iload_n 2, 1) := by decide +kernel
theorem dX3_outcome_23 : decode cX3_outcome 23 = .ok (.iconst 0, 1) := by decide +kernel
theorem dX3_outcome_24 : decode cX3_outcome 24 = .ok (.invokevirtual 40, 3) := by decide +kernel
theorem dX3_outcome_27 : decode cX3_outcome 27 = .ok (.ireturn, 1) := by decide +kernel
theorem dX3_used_0 : decode cX3_used 0 = .ok (.aload_n 0, 1) := by decide +kernel
theorem dX3_used_1 : decode cX3_used 1 = .ok (.getfield 37, 3) := by decide +kernel
theorem dX3_used_4 : decode cX3_used 4 = .ok (.ireturn, 1) := by decide +kernel
theorem dX3_part_0 : decode cX3_part 0 = .ok (.iload_n 3, 1) := by decide +kernel
theorem dX3_part_1 : decode cX3_part 1 = .ok (.bipush 6, 2) := by decide +kernel
theorem dX3_part_3 : decode cX3_part 3 = .ok (.if_icmp .le 6, 3) := by decide +kernel
theorem dX3_part_6 : decode cX3_part 6 = .ok (.bipush (-11), 2) := by decide +kernel
theorem dX3_part_8 : decode cX3_part 8 = .ok (.ireturn, 1) := by decide +kernel
theorem dX3_part_9 : decode cX3_part 9 = .ok (.aload_n 1, 1) := by decide +kernel
theorem dX3_part_10 : decode cX3_part 10 = .ok (.aload_n 0, 1) := by decide +kernel
theorem dX3_part_11 : decode cX3_part 11 = .ok (.getfield 27, 3) := by decide +kernel
theorem dX3_part_14 : decode cX3_part 14 = .ok (.invokevirtual 44, 3) := by decide +kernel
theorem dX3_part_17 : decode cX3_part 17 = .ok (.istore 4, 2) := by decide +kernel
theorem dX3_part_19 : decode cX3_part 19 = .ok (.aload_n 0, 1) := by decide +kernel
theorem dX3_part_20 : decode cX3_part 20 = .ok (.dup, 1) := by decide +kernel
theorem dX3_part_21 : decode cX3_part 21 = .ok (.getfield 27, 3) := by decide +kernel
theorem dX3_part_24 : decode cX3_part 24 = .ok (.iconst 1, 1) := by decide +kernel
theorem dX3_part_25 : decode cX3_part 25 = .ok (.iadd, 1) := by decide +kernel
theorem dX3_part_26 : decode cX3_part 26 = .ok (.putfield 27, 3) := by decide +kernel
theorem dX3_part_29 : decode cX3_part 29 = .ok (.iload 4, 2) := by decide +kernel
theorem dX3_part_31 : decode cX3_part 31 = .ok (.bipush 120, 2) := by decide +kernel
theorem dX3_part_33 : decode cX3_part 33 = .ok (.if_icmp .ne 5, 3) := by decide +kernel
theorem dX3_part_36 : decode cX3_part 36 = .ok (.iload_n 2, 1) := by decide +kernel
theorem dX3_part_37 : decode cX3_part 37 = .ok (.ireturn, 1) := by decide +kernel
theorem dX3_part_38 : decode cX3_part 38 = .ok (.iload 4, 2) := by decide +kernel
theorem dX3_part_40 : decode cX3_part 40 = .ok (.invokestatic 48, 3) := by decide +kernel
theorem dX3_part_43 : decode cX3_part 43 = .ok (.ifCond .eq 9, 3) := by decide +kernel
theorem dX3_part_46 : decode cX3_part 46 = .ok (.iload 4, 2) := by decide +kernel
theorem dX3_part_48 : decode cX3_part 48 = .ok (.bipush 48, 2) := by decide +kernel
theorem dX3_part_50 : decode cX3_part 50 = .ok (.isub, 1) := by decide +kernel
theorem dX3_part_51 : decode cX3_part 51 = .ok (.ireturn, 1) := by decide +kernel
theorem dX3_part_52 : decode cX3_part 52 = .ok (.aload_n 0, 1) := by decide +kernel
theorem dX3_part_53 : decode cX3_part 53 = .ok (.aload_n 1, 1) := by decide +kernel
theorem dX3_part_54 : decode cX3_part 54 = .ok (.iload_n 2, 1) := by decide +kernel
theorem dX3_part_55 : decode cX3_part 55 = .ok (.iload_n 3, 1) := by decide +kernel
theorem dX3_part_56 : decode cX3_part 56 = .ok (.iconst 1, 1) := by decide +kernel
theorem dX3_part_57 : decode cX3_part 57 = .ok (.iadd, 1) := by decide +kernel
theorem dX3_part_58 : decode cX3_part 58 = .ok (.invokevirtual 40, 3) := by decide +kernel
theorem dX3_part_61 : decode cX3_part 61 = .ok (.istore 5, 2) := by decide +kernel
theorem dX3_part_63 : decode cX3_part 63 = .ok (.iload 5, 2) := by decide +kernel
theorem dX3_part_65 : decode cX3_part 65 = .ok (.ifCond .ge 6, 3) := by decide +kernel
theorem dX3_part_68 : decode cX3_part 68 = .ok (.iload 5, 2) := by decide +kernel
theorem dX3_part_70 : decode cX3_part 70 = .ok (.ireturn, 1) := by decide +kernel
theorem dX3_part_71 : decode cX3_part 71 = .ok (.iload 4, 2) := by decide +kernel
theorem dX3_part_73 : decode cX3_part 73 = .ok (.invokestatic 53, 3) := by decide +kernel
theorem dX3_part_76 : decode cX3_part 76 = .ok (.ifCond .eq 15, 3) := by decide +kernel
theorem dX3_part_79 : decode cX3_part 79 = .ok (.aload_n 0, 1) := by decide +kernel
theorem dX3_part_80 : decode cX3_part 80 = .ok (.iload 4, 2) := by decide +kernel
theorem dX3_part_82 : decode cX3_part 82 = .ok (.bipush 97, 2) := by decide +kernel
theorem dX3_part_84 : decode cX3_part 84 = .ok (.isub, 1) := by decide +kernel
theorem dX3_part_85 : decode cX3_part 85 = .ok (.iload 5, 2) := by decide +kernel
theorem dX3_part_87 : decode cX3_part 87 = .ok (.invokevirtual 54, 3) := by decide +kernel
theorem dX3_part_90 : decode cX3_part 90 = .ok (.ireturn, 1) := by decide +kernel
theorem dX3_part_91 : decode cX3_part 91 = .ok (.iload 4, 2) := by decide +kernel
theorem dX3_part_93 : decode cX3_part 93 = .ok (.bipush 63, 2) := by decide +kernel
theorem dX3_part_95 : decode cX3_part 95 = .ok (.if_icmp .ne 20, 3) := by decide +kernel
theorem dX3_part_98 : decode cX3_part 98 = .ok (.iload 5, 2) := by decide +kernel
theorem dX3_part_100 : decode cX3_part 100 = .ok (.ifCond .eq 15, 3) := by decide +kernel
theorem dX3_part_103 : decode cX3_part 103 = .ok (.aload_n 0, 1) := by decide +kernel
theorem dX3_part_104 : decode cX3_part 104 = .ok (.aload_n 1, 1) := by decide +kernel
theorem dX3_part_105 : decode cX3_part 105 = .ok (.aload_n 0, 1) := by decide +kernel
theorem dX3_part_106 : decode cX3_part 106 = .ok (.getfield 27, 3) := by decide +kernel
theorem dX3_part_109 : decode cX3_part 109 = .ok (.invokevirtual 58, 3) := by decide +kernel
theorem dX3_part_112 : decode cX3_part 112 = .ok (.putfield 27, 3) := by decide +kernel
theorem dX3_part_115 : decode cX3_part 115 = .ok (.aload_n 0, 1) := by decide +kernel
theorem dX3_part_116 : decode cX3_part 116 = .ok (.aload_n 1, 1) := by decide +kernel
theorem dX3_part_117 : decode cX3_part 117 = .ok (.iload_n 2, 1) := by decide +kernel
theorem dX3_part_118 : decode cX3_part 118 = .ok (.iload_n 3, 1) := by decide +kernel
theorem dX3_part_119 : decode cX3_part 119 = .ok (.iconst 1, 1) := by decide +kernel
theorem dX3_part_120 : decode cX3_part 120 = .ok (.iadd, 1) := by decide +kernel
theorem dX3_part_121 : decode cX3_part 121 = .ok (.invokevirtual 40, 3) := by decide +kernel
theorem dX3_part_124 : decode cX3_part 124 = .ok (.istore 6, 2) := by decide +kernel
theorem dX3_part_126 : decode cX3_part 126 = .ok (.iload 6, 2) := by decide +kernel
theorem dX3_part_128 : decode cX3_part 128 = .ok (.ifCond .ge 6, 3) := by decide +kernel
theorem dX3_part_131 : decode cX3_part 131 = .ok (.iload 6, 2) := by decide +kernel
theorem dX3_part_133 : decode cX3_part 133 = .ok (.ireturn, 1) := by decide +kernel
theorem dX3_part_134 : decode cX3_part 134 = .ok (.iload 4, 2) := by decide +kernel
theorem dX3_part_136 : decode cX3_part 136 = .ok (.bipush 63, 2) := by decide +kernel
theorem dX3_part_138 : decode cX3_part 138 = .ok (.if_icmp .eq 13, 3) := by decide +kernel
theorem dX3_part_141 : decode cX3_part 141 = .ok (.iload 4, 2) := by decide +kernel
theorem dX3_part_143 : decode cX3_part 143 = .ok (.iload 5, 2) := by decide +kernel
theorem dX3_part_145 : decode cX3_part 145 = .ok (.iload 6, 2) := by decide +kernel
theorem dX3_part_147 : decode cX3_part 147 = .ok (.invokestatic 61, 3) := by decide +kernel
theorem dX3_part_150 : decode cX3_part 150 = .ok (.ireturn, 1) := by decide +kernel
theorem dX3_part_151 : decode cX3_part 151 = .ok (.iload 5, 2) := by decide +kernel
theorem dX3_part_153 : decode cX3_part 153 = .ok (.ifCond .ne 15, 3) := by decide +kernel
theorem dX3_part_156 : decode cX3_part 156 = .ok (.aload_n 0, 1) := by decide +kernel
theorem dX3_part_157 : decode cX3_part 157 = .ok (.aload_n 1, 1) := by decide +kernel
theorem dX3_part_158 : decode cX3_part 158 = .ok (.aload_n 0, 1) := by decide +kernel
theorem dX3_part_159 : decode cX3_part 159 = .ok (.getfield 27, 3) := by decide +kernel
theorem dX3_part_162 : decode cX3_part 162 = .ok (.invokevirtual 58, 3) := by decide +kernel
theorem dX3_part_165 : decode cX3_part 165 = .ok (.putfield 27, 3) := by decide +kernel
theorem dX3_part_168 : decode cX3_part 168 = .ok (.iload 6, 2) := by decide +kernel
theorem dX3_part_170 : decode cX3_part 170 = .ok (.ireturn, 1) := by decide +kernel
theorem dX3_give_0 : decode cX3_give 0 = .ok (.iload_n 1, 1) := by decide +kernel
theorem dX3_give_1 : decode cX3_give 1 = .ok (.invokestatic 23, 3) := by decide +kernel
theorem dX3_give_4 : decode cX3_give 4 = .ok (.ifCond .ne 6, 3) := by decide +kernel
theorem dX3_give_7 : decode cX3_give 7 = .ok (.bipush (-10), 2) := by decide +kernel
theorem dX3_give_9 : decode cX3_give 9 = .ok (.ireturn, 1) := by decide +kernel
theorem dX3_give_10 : decode cX3_give 10 = .ok (.aload_n 0, 1) := by decide +kernel
theorem dX3_give_11 : decode cX3_give 11 = .ok (.getfield 11, 3) := by decide +kernel
theorem dX3_give_14 : decode cX3_give 14 = .ok (.iload_n 1, 1) := by decide +kernel
theorem dX3_give_15 : decode cX3_give 15 = .ok (.aaload, 1) := by decide +kernel
theorem dX3_give_16 : decode cX3_give 16 = .ok (.invokevirtual 65, 3) := by decide +kernel
theorem dX3_give_19 : decode cX3_give 19 = .ok (.ifCond .ne 7, 3) := by decide +kernel
theorem dX3_give_22 : decode cX3_give 22 = .ok (.iconst 1, 1) := by decide +kernel
theorem dX3_give_23 : decode cX3_give 23 = .ok (.goto 4, 3) := by decide +kernel
theorem dX3_give_26 : decode cX3_give 26 = .ok (.iconst 0, 1) := by decide +kernel
theorem dX3_give_27 : decode cX3_give 27 = .ok (.istore_n 3, 1) := by decide +kernel
theorem dX3_give_28 : decode cX3_give 28 = .ok (.iload_n 3, 1) := by decide +kernel
theorem dX3_give_29 : decode cX3_give 29 = .ok (.ifCond .ne 25, 3) := by decide +kernel
theorem dX3_give_32 : decode cX3_give 32 = .ok (.aload_n 0, 1) := by decide +kernel
theorem dX3_give_33 : decode cX3_give 33 = .ok (.getfield 31, 3) := by decide +kernel
theorem dX3_give_36 : decode cX3_give 36 = .ok (.sipush 300, 3) := by decide +kernel
theorem dX3_give_39 : decode cX3_give 39 = .ok (.if_icmp .ge 12, 3) := by decide +kernel
theorem dX3_give_42 : decode cX3_give 42 = .ok (.aload_n 0, 1) := by decide +kernel
theorem dX3_give_43 : decode cX3_give 43 = .ok (.getfield 34, 3) := by decide +kernel
theorem dX3_give_46 : decode cX3_give 46 = .ok (.bipush 20, 2) := by decide +kernel
theorem dX3_give_48 : decode cX3_give 48 = .ok (.if_icmp .lt 6, 3) := by decide +kernel
theorem dX3_give_51 : decode cX3_give 51 = .ok (.bipush (-11), 2) := by decide +kernel
theorem dX3_give_53 : decode cX3_give 53 = .ok (.ireturn, 1) := by decide +kernel
theorem dX3_give_54 : decode cX3_give 54 = .ok (.aload_n 0, 1) := by decide +kernel
theorem dX3_give_55 : decode cX3_give 55 = .ok (.dup, 1) := by decide +kernel
theorem dX3_give_56 : decode cX3_give 56 = .ok (.getfield 37, 3) := by decide +kernel
theorem dX3_give_59 : decode cX3_give 59 = .ok (.iconst 1, 1) := by decide +kernel
theorem dX3_give_60 : decode cX3_give 60 = .ok (.iload_n 1, 1) := by decide +kernel
theorem dX3_give_61 : decode cX3_give 61 = .ok (.ishl, 1) := by decide +kernel
theorem dX3_give_62 : decode cX3_give 62 = .ok (.ior, 1) := by decide +kernel
theorem dX3_give_63 : decode cX3_give 63 = .ok (.putfield 37, 3) := by decide +kernel
theorem dX3_give_66 : decode cX3_give 66 = .ok (.iload_n 3, 1) := by decide +kernel
theorem dX3_give_67 : decode cX3_give 67 = .ok (.ifCond .eq 6, 3) := by decide +kernel
theorem dX3_give_70 : decode cX3_give 70 = .ok (.bipush (-10), 2) := by decide +kernel
theorem dX3_give_72 : decode cX3_give 72 = .ok (.ireturn, 1) := by decide +kernel
theorem dX3_give_73 : decode cX3_give 73 = .ok (.aload_n 0, 1) := by decide +kernel
theorem dX3_give_74 : decode cX3_give 74 = .ok (.dup, 1) := by decide +kernel
theorem dX3_give_75 : decode cX3_give 75 = .ok (.getfield 31, 3) := by decide +kernel
theorem dX3_give_78 : decode cX3_give 78 = .ok (.iconst 1, 1) := by decide +kernel
theorem dX3_give_79 : decode cX3_give 79 = .ok (.iadd, 1) := by decide +kernel
theorem dX3_give_80 : decode cX3_give 80 = .ok (.putfield 31, 3) := by decide +kernel
theorem dX3_give_83 : decode cX3_give 83 = .ok (.aload_n 0, 1) := by decide +kernel
theorem dX3_give_84 : decode cX3_give 84 = .ok (.dup, 1) := by decide +kernel
theorem dX3_give_85 : decode cX3_give 85 = .ok (.getfield 34, 3) := by decide +kernel
theorem dX3_give_88 : decode cX3_give 88 = .ok (.iconst 1, 1) := by decide +kernel
theorem dX3_give_89 : decode cX3_give 89 = .ok (.iadd, 1) := by decide +kernel
theorem dX3_give_90 : decode cX3_give 90 = .ok (.putfield 34, 3) := by decide +kernel
theorem dX3_give_93 : decode cX3_give 93 = .ok (.aload_n 0, 1) := by decide +kernel
theorem dX3_give_94 : decode cX3_give 94 = .ok (.getfield 27, 3) := by decide +kernel
theorem dX3_give_97 : decode cX3_give 97 = .ok (.istore 4, 2) := by decide +kernel
theorem dX3_give_99 : decode cX3_give 99 = .ok (.aload_n 0, 1) := by decide +kernel
theorem dX3_give_100 : decode cX3_give 100 = .ok (.iconst 0, 1) := by decide +kernel
theorem dX3_give_101 : decode cX3_give 101 = .ok (.putfield 27, 3) := by decide +kernel
theorem dX3_give_104 : decode cX3_give 104 = .ok (.aload_n 0, 1) := by decide +kernel
theorem dX3_give_105 : decode cX3_give 105 = .ok (.aload_n 0, 1) := by decide +kernel
theorem dX3_give_106 : decode cX3_give 106 = .ok (.getfield 11, 3) := by decide +kernel
theorem dX3_give_109 : decode cX3_give 109 = .ok (.iload_n 1, 1) := by decide +kernel
theorem dX3_give_110 : decode cX3_give 110 = .ok (.aaload, 1) := by decide +kernel
theorem dX3_give_111 : decode cX3_give 111 = .ok (.iload_n 2, 1) := by decide +kernel
theorem dX3_give_112 : decode cX3_give 112 = .ok (.iconst 0, 1) := by decide +kernel
theorem dX3_give_113 : decode cX3_give 113 = .ok (.invokevirtual 40, 3) := by decide +kernel
theorem dX3_give_116 : decode cX3_give 116 = .ok (.istore 5, 2) := by decide +kernel
theorem dX3_give_118 : decode cX3_give 118 = .ok (.aload_n 0, 1) := by decide +kernel
theorem dX3_give_119 : decode cX3_give 119 = .ok (.iload 4, 2) := by decide +kernel
theorem dX3_give_121 : decode cX3_give 121 = .ok (.putfield 27, 3) := by decide +kernel
theorem dX3_give_124 : decode cX3_give 124 = .ok (.aload_n 0, 1) := by decide +kernel
theorem dX3_give_125 : decode cX3_give 125 = .ok (.dup, 1) := by decide +kernel
theorem dX3_give_126 : decode cX3_give 126 = .ok (.getfield 34, 3) := by decide +kernel
theorem dX3_give_129 : decode cX3_give 129 = .ok (.iconst 1, 1) := by decide +kernel
theorem dX3_give_130 : decode cX3_give 130 = .ok (.isub, 1) := by decide +kernel
theorem dX3_give_131 : decode cX3_give 131 = .ok (.putfield 34, 3) := by decide +kernel
theorem dX3_give_134 : decode cX3_give 134 = .ok (.iload 5, 2) := by decide +kernel
theorem dX3_give_136 : decode cX3_give 136 = .ok (.ireturn, 1) := by decide +kernel
theorem dX4_isWord_0 : decode cX4_isWord 0 = .ok (.iload_n 0, 1) := by decide +kernel
theorem dX4_isWord_1 : decode cX4_isWord 1 = .ok (.bipush 97, 2) := by decide +kernel
theorem dX4_isWord_3 : decode cX4_isWord 3 = .ok (.if_icmp .lt 13, 3) := by decide +kernel
theorem dX4_isWord_6 : decode cX4_isWord 6 = .ok (.iload_n 0, 1) := by decide +kernel
theorem dX4_isWord_7 : decode cX4_isWord 7 = .ok (.bipush 105, 2) := by decide +kernel
theorem dX4_isWord_9 : decode cX4_isWord 9 = .ok (.if_icmp .ge 7, 3) := by decide +kernel
theorem dX4_isWord_12 : decode cX4_isWord 12 = .ok (.iconst 1, 1) := by decide +kernel
theorem dX4_isWord_13 : decode cX4_isWord 13 = .ok (.goto 4, 3) := by decide +kernel
theorem dX4_isWord_16 : decode cX4_isWord 16 = .ok (.iconst 0, 1) := by decide +kernel
theorem dX4_isWord_17 : decode cX4_isWord 17 = .ok (.ireturn, 1) := by decide +kernel
theorem dX4_isDigit_0 : decode cX4_isDigit 0 = .ok (.iload_n 0, 1) := by decide +kernel
theorem dX4_isDigit_1 : decode cX4_isDigit 1 = .ok (.bipush 48, 2) := by decide +kernel
theorem dX4_isDigit_3 : decode cX4_isDigit 3 = .ok (.if_icmp .lt 13, 3) := by decide +kernel
theorem dX4_isDigit_6 : decode cX4_isDigit 6 = .ok (.iload_n 0, 1) := by decide +kernel
theorem dX4_isDigit_7 : decode cX4_isDigit 7 = .ok (.bipush 57, 2) := by decide +kernel
theorem dX4_isDigit_9 : decode cX4_isDigit 9 = .ok (.if_icmp .gt 7, 3) := by decide +kernel
theorem dX4_isDigit_12 : decode cX4_isDigit 12 = .ok (.iconst 1, 1) := by decide +kernel
theorem dX4_isDigit_13 : decode cX4_isDigit 13 = .ok (.goto 4, 3) := by decide +kernel
theorem dX4_isDigit_16 : decode cX4_isDigit 16 = .ok (.iconst 0, 1) := by decide +kernel
theorem dX4_isDigit_17 : decode cX4_isDigit 17 = .ok (.ireturn, 1) := by decide +kernel
theorem dX4_needs_0 : decode cX4_needs 0 = .ok (.iload_n 0, 1) := by decide +kernel
theorem dX4_needs_1 : decode cX4_needs 1 = .ok (.bipush 48, 2) := by decide +kernel
theorem dX4_needs_3 : decode cX4_needs 3 = .ok (.if_icmp .lt 11, 3) := by decide +kernel
theorem dX4_needs_6 : decode cX4_needs 6 = .ok (.iload_n 0, 1) := by decide +kernel
theorem dX4_needs_7 : decode cX4_needs 7 = .ok (.bipush 57, 2) := by decide +kernel
theorem dX4_needs_9 : decode cX4_needs 9 = .ok (.if_icmp .gt 5, 3) := by decide +kernel
theorem dX4_needs_12 : decode cX4_needs 12 = .ok (.iconst 0, 1) := by decide +kernel
theorem dX4_needs_13 : decode cX4_needs 13 = .ok (.ireturn, 1) := by decide +kernel
theorem dX4_needs_14 : decode cX4_needs 14 = .ok (.iload_n 0, 1) := by decide +kernel
theorem dX4_needs_15 : decode cX4_needs 15 = .ok (.lookupswitch 63 #[(42, 59), (43, 59), (45, 59), (63, 61), (109, 59), (120, 57)], 57) := by decide +kernel
theorem dX4_needs_72 : decode cX4_needs 72 = .ok (.iconst 0, 1) := by decide +kernel
theorem dX4_needs_73 : decode cX4_needs 73 = .ok (.ireturn, 1) := by decide +kernel
theorem dX4_needs_74 : decode cX4_needs 74 = .ok (.iconst 2, 1) := by decide +kernel
theorem dX4_needs_75 : decode cX4_needs 75 = .ok (.ireturn, 1) := by decide +kernel
theorem dX4_needs_76 : decode cX4_needs 76 = .ok (.iconst 3, 1) := by decide +kernel
theorem dX4_needs_77 : decode cX4_needs 77 = .ok (.ireturn, 1) := by decide +kernel
theorem dX4_needs_78 : decode cX4_needs 78 = .ok (.iload_n 0, 1) := by decide +kernel
theorem dX4_needs_79 : decode cX4_needs 79 = .ok (.bipush 97, 2) := by decide +kernel
theorem dX4_needs_81 : decode cX4_needs 81 = .ok (.if_icmp .lt 13, 3) := by decide +kernel
theorem dX4_needs_84 : decode cX4_needs 84 = .ok (.iload_n 0, 1) := by decide +kernel
theorem dX4_needs_85 : decode cX4_needs 85 = .ok (.bipush 105, 2) := by decide +kernel
theorem dX4_needs_87 : decode cX4_needs 87 = .ok (.if_icmp .ge 7, 3) := by decide +kernel
theorem dX4_needs_90 : decode cX4_needs 90 = .ok (.iconst 1, 1) := by decide +kernel
theorem dX4_needs_91 : decode cX4_needs 91 = .ok (.goto 5, 3) := by decide +kernel
theorem dX4_needs_94 : decode cX4_needs 94 = .ok (.bipush (-6), 2) := by decide +kernel
theorem dX4_needs_96 : decode cX4_needs 96 = .ok (.ireturn, 1) := by decide +kernel
theorem dX4_slipped_0 : decode cX4_slipped 0 = .ok (.iload_n 0, 1) := by decide +kernel
theorem dX4_slipped_1 : decode cX4_slipped 1 = .ok (.lookupswitch 68 #[(42, 62), (43, 59), (45, 62), (57, 65), (109, 62), (120, 65)], 59) := by decide +kernel
theorem dX4_slipped_60 : decode cX4_slipped 60 = .ok (.bipush 45, 2) := by decide +kernel
theorem dX4_slipped_62 : decode cX4_slipped 62 = .ok (.ireturn, 1) := by decide +kernel
theorem dX4_slipped_63 : decode cX4_slipped 63 = .ok (.bipush 43, 2) := by decide +kernel
theorem dX4_slipped_65 : decode cX4_slipped 65 = .ok (.ireturn, 1) := by decide +kernel
theorem dX4_slipped_66 : decode cX4_slipped 66 = .ok (.bipush 48, 2) := by decide +kernel
theorem dX4_slipped_68 : decode cX4_slipped 68 = .ok (.ireturn, 1) := by decide +kernel
theorem dX4_slipped_69 : decode cX4_slipped 69 = .ok (.iload_n 0, 1) := by decide +kernel
theorem dX4_slipped_70 : decode cX4_slipped 70 = .ok (.invokestatic 9, 3) := by decide +kernel
theorem dX4_slipped_73 : decode cX4_slipped 73 = .ok (.ifCond .eq 9, 3) := by decide +kernel
theorem dX4_slipped_76 : decode cX4_slipped 76 = .ok (.iload_n 0, 1) := by decide +kernel
theorem dX4_slipped_77 : decode cX4_slipped 77 = .ok (.iconst 1, 1) := by decide +kernel
theorem dX4_slipped_78 : decode cX4_slipped 78 = .ok (.iadd, 1) := by decide +kernel
theorem dX4_slipped_79 : decode cX4_slipped 79 = .ok (.goto 5, 3) := by decide +kernel
theorem dX4_slipped_82 : decode cX4_slipped 82 = .ok (.bipush (-6), 2) := by decide +kernel
theorem dX4_slipped_84 : decode cX4_slipped 84 = .ok (.ireturn, 1) := by decide +kernel
theorem dX4_joined_0 : decode cX4_joined 0 = .ok (.iload_n 0, 1) := by decide +kernel
theorem dX4_joined_1 : decode cX4_joined 1 = .ok (.tableswitch 61 42 45 #[51, 31, 61, 41], 31) := by decide +kernel
theorem dX4_joined_32 : decode cX4_joined 32 = .ok (.iload_n 1, 1) := by decide +kernel
theorem dX4_joined_33 : decode cX4_joined 33 = .ok (.iload_n 2, 1) := by decide +kernel
theorem dX4_joined_34 : decode cX4_joined 34 = .ok (.iadd, 1) := by decide +kernel
theorem dX4_joined_35 : decode cX4_joined 35 = .ok (.sipush 1000, 3) := by decide +kernel
theorem dX4_joined_38 : decode cX4_joined 38 = .ok (.invokestatic 15, 3) := by decide +kernel
theorem dX4_joined_41 : decode cX4_joined 41 = .ok (.ireturn, 1) := by decide +kernel
theorem dX4_joined_42 : decode cX4_joined 42 = .ok (.iload_n 1, 1) := by decide +kernel
theorem dX4_joined_43 : decode cX4_joined 43 = .ok (.iload_n 2, 1) := by decide +kernel
theorem dX4_joined_44 : decode cX4_joined 44 = .ok (.isub, 1) := by decide +kernel
theorem dX4_joined_45 : decode cX4_joined 45 = .ok (.sipush 1000, 3) := by decide +kernel
theorem dX4_joined_48 : decode cX4_joined 48 = .ok (.invokestatic 15, 3) := by decide +kernel
theorem dX4_joined_51 : decode cX4_joined 51 = .ok (.ireturn, 1) := by decide +kernel
theorem dX4_joined_52 : decode cX4_joined 52 = .ok (.iload_n 1, 1) := by decide +kernel
theorem dX4_joined_53 : decode cX4_joined 53 = .ok (.iload_n 2, 1) := by decide +kernel
theorem dX4_joined_54 : decode cX4_joined 54 = .ok (.imul, 1) := by decide +kernel
theorem dX4_joined_55 : decode cX4_joined 55 = .ok (.sipush 1000, 3) := by decide +kernel
theorem dX4_joined_58 : decode cX4_joined 58 = .ok (.invokestatic 15, 3) := by decide +kernel
theorem dX4_joined_61 : decode cX4_joined 61 = .ok (.ireturn, 1) := by decide +kernel
theorem dX4_joined_62 : decode cX4_joined 62 = .ok (.iload_n 1, 1) := by decide +kernel
theorem dX4_joined_63 : decode cX4_joined 63 = .ok (.iload_n 2, 1) := by decide +kernel
theorem dX4_joined_64 : decode cX4_joined 64 = .ok (.invokestatic 21, 3) := by decide +kernel
theorem dX4_joined_67 : decode cX4_joined 67 = .ok (.ireturn, 1) := by decide +kernel
theorem dX5_init_0 : decode cX5_init 0 = .ok (.aload_n 0, 1) := by decide +kernel
theorem dX5_init_1 : decode cX5_init 1 = .ok (.invokespecial 3, 3) := by decide +kernel
theorem dX5_init_4 : decode cX5_init 4 = .ok (.aload_n 0, 1) := by decide +kernel
theorem dX5_init_5 : decode cX5_init 5 = .ok (.aload_n 1, 1) := by decide +kernel
theorem dX5_init_6 : decode cX5_init 6 = .ok (.putfield 9, 3) := by decide +kernel
theorem dX5_init_9 : decode cX5_init 9 = .ok (.aload_n 0, 1) := by decide +kernel
theorem dX5_init_10 : decode cX5_init 10 = .ok (.aload_n 2, 1) := by decide +kernel
theorem dX5_init_11 : decode cX5_init 11 = .ok (.putfield 15, 3) := by decide +kernel
theorem dX5_init_14 : decode cX5_init 14 = .ok (.aload_n 0, 1) := by decide +kernel
theorem dX5_init_15 : decode cX5_init 15 = .ok (.aload_n 3, 1) := by decide +kernel
theorem dX5_init_16 : decode cX5_init 16 = .ok (.putfield 19, 3) := by decide +kernel
theorem dX5_init_19 : decode cX5_init 19 = .ok (.aload_n 0, 1) := by decide +kernel
theorem dX5_init_20 : decode cX5_init 20 = .ok (.aload 4, 2) := by decide +kernel
theorem dX5_init_22 : decode cX5_init 22 = .ok (.putfield 23, 3) := by decide +kernel
theorem dX5_init_25 : decode cX5_init 25 = .ok (.aload_n 0, 1) := by decide +kernel
theorem dX5_init_26 : decode cX5_init 26 = .ok (.sipush 320, 3) := by decide +kernel
theorem dX5_init_29 : decode cX5_init 29 = .ok (.newarray .int, 2) := by decide +kernel
theorem dX5_init_31 : decode cX5_init 31 = .ok (.putfield 27, 3) := by decide +kernel
theorem dX5_init_34 : decode cX5_init 34 = .ok (.aload_n 0, 1) := by decide +kernel
theorem dX5_init_35 : decode cX5_init 35 = .ok (.bipush 6, 2) := by decide +kernel
theorem dX5_init_37 : decode cX5_init 37 = .ok (.newarray .boolean, 2) := by decide +kernel
theorem dX5_init_39 : decode cX5_init 39 = .ok (.putfield 31, 3) := by decide +kernel
theorem dX5_init_42 : decode cX5_init 42 = .ok (.aload_n 0, 1) := by decide +kernel
theorem dX5_init_43 : decode cX5_init 43 = .ok (.sipush 1920, 3) := by decide +kernel
theorem dX5_init_46 : decode cX5_init 46 = .ok (.newarray .int, 2) := by decide +kernel
theorem dX5_init_48 : decode cX5_init 48 = .ok (.putfield 35, 3) := by decide +kernel
theorem dX5_init_51 : decode cX5_init 51 = .ok (.return_, 1) := by decide +kernel
theorem dX5_forget_0 : decode cX5_forget 0 = .ok (.iconst 0, 1) := by decide +kernel
theorem dX5_forget_1 : decode cX5_forget 1 = .ok (.istore_n 1, 1) := by decide +kernel
theorem dX5_forget_2 : decode cX5_forget 2 = .ok (.iload_n 1, 1) := by decide +kernel
theorem dX5_forget_3 : decode cX5_forget 3 = .ok (.bipush 6, 2) := by decide +kernel
theorem dX5_forget_5 : decode cX5_forget 5 = .ok (.if_icmp .ge 16, 3) := by decide +kernel
theorem dX5_forget_8 : decode cX5_forget 8 = .ok (.aload_n 0, 1) := by decide +kernel
theorem dX5_forget_9 : decode cX5_forget 9 = .ok (.getfield 31, 3) := by decide +kernel
theorem dX5_forget_12 : decode cX5_forget 12 = .ok (.iload_n 1, 1) := by decide +kernel
theorem dX5_forget_13 : decode cX5_forget 13 = .ok (.iconst 0, 1) := by decide +kernel
theorem dX5_forget_14 : decode cX5_forget 14 = .ok (.bastore, 1) := by decide +kernel
theorem dX5_forget_15 : decode cX5_forget 15 = .ok (.iinc 1 1, 3) := by decide +kernel
theorem dX5_forget_18 : decode cX5_forget 18 = .ok (.goto (-16), 3) := by decide +kernel
theorem dX5_forget_21 : decode cX5_forget 21 = .ok (.return_, 1) := by decide +kernel
theorem dX5_list_0 : decode cX5_list 0 = .ok (.iconst 0, 1) := by decide +kernel
theorem dX5_list_1 : decode cX5_list 1 = .ok (.istore_n 2, 1) := by decide +kernel
theorem dX5_list_2 : decode cX5_list 2 = .ok (.iconst 0, 1) := by decide +kernel
theorem dX5_list_3 : decode cX5_list 3 = .ok (.istore_n 3, 1) := by decide +kernel
theorem dX5_list_4 : decode cX5_list 4 = .ok (.iload_n 3, 1) := by decide +kernel
theorem dX5_list_5 : decode cX5_list 5 = .ok (.bipush 8, 2) := by decide +kernel
theorem dX5_list_7 : decode cX5_list 7 = .ok (.if_icmp .ge 77, 3) := by decide +kernel
theorem dX5_list_10 : decode cX5_list 10 = .ok (.aload_n 0, 1) := by decide +kernel
theorem dX5_list_11 : decode cX5_list 11 = .ok (.getfield 9, 3) := by decide +kernel
theorem dX5_list_14 : decode cX5_list 14 = .ok (.iload_n 1, 1) := by decide +kernel
theorem dX5_list_15 : decode cX5_list 15 = .ok (.iload_n 3, 1) := by decide +kernel
theorem dX5_list_16 : decode cX5_list 16 = .ok (.invokevirtual 38, 3) := by decide +kernel
theorem dX5_list_19 : decode cX5_list 19 = .ok (.astore 4, 2) := by decide +kernel
theorem dX5_list_21 : decode cX5_list 21 = .ok (.iconst 0, 1) := by decide +kernel
theorem dX5_list_22 : decode cX5_list 22 = .ok (.istore 5, 2) := by decide +kernel
theorem dX5_list_24 : decode cX5_list 24 = .ok (.iload 5, 2) := by decide +kernel
theorem dX5_list_26 : decode cX5_list 26 = .ok (.aload 4, 2) := by decide +kernel
theorem dX5_list_28 : decode cX5_list 28 = .ok (.invokevirtual 44, 3) := by decide +kernel
theorem dX5_list_31 : decode cX5_list 31 = .ok (.if_icmp .ge 47, 3) := by decide +kernel
theorem dX5_list_34 : decode cX5_list 34 = .ok (.aload 4, 2) := by decide +kernel
theorem dX5_list_36 : decode cX5_list 36 = .ok (.iload 5, 2) := by decide +kernel
theorem dX5_list_38 : decode cX5_list 38 = .ok (.invokevirtual 50, 3) := by decide +kernel
theorem dX5_list_41 : decode cX5_list 41 = .ok (.invokestatic 54, 3) := by decide +kernel
theorem dX5_list_44 : decode cX5_list 44 = .ok (.bipush (-6), 2) := by decide +kernel
theorem dX5_list_46 : decode cX5_list 46 = .ok (.if_icmp .eq 26, 3) := by decide +kernel
theorem dX5_list_49 : decode cX5_list 49 = .ok (.iload_n 2, 1) := by decide +kernel
theorem dX5_list_50 : decode cX5_list 50 = .ok (.sipush 320, 3) := by decide +kernel
theorem dX5_list_53 : decode cX5_list 53 = .ok (.if_icmp .ge 19, 3) := by decide +kernel
theorem dX5_list_56 : decode cX5_list 56 = .ok (.aload_n 0, 1) := by decide +kernel
theorem dX5_list_57 : decode cX5_list 57 = .ok (.getfield 27, 3) := by decide +kernel
theorem dX5_list_60 : decode cX5_list 60 = .ok (.iload_n 2, 1) := by decide +kernel
theorem dX5_list_61 : decode cX5_list 61 = .ok (.bipush 100, 2) := by decide +kernel
theorem dX5_list_63 : decode cX5_list 63 = .ok (.iload_n 3, 1) := by decide +kernel
theorem dX5_list_64 : decode cX5_list 64 = .ok (.imul, 1) := by decide +kernel
theorem dX5_list_65 : decode cX5_list 65 = .ok (.iload 5, 2) := by decide +kernel
theorem dX5_list_67 : decode cX5_list 67 = .ok (.iadd, 1) := by decide +kernel
theorem dX5_list_68 : decode cX5_list 68 = .ok (.iastore, 1) := by decide +kernel
theorem dX5_list_69 : decode cX5_list 69 = .ok (.iinc 2 1, 3) := by decide +kernel
theorem dX5_list_72 : decode cX5_list 72 = .ok (.iinc 5 1, 3) := by decide +kernel
theorem dX5_list_75 : decode cX5_list 75 = .ok (.goto (-51), 3) := by decide +kernel
theorem dX5_list_78 : decode cX5_list 78 = .ok (.iinc 3 1, 3) := by decide +kernel
theorem dX5_list_81 : decode cX5_list 81 = .ok (.goto (-77), 3) := by decide +kernel
theorem dX5_list_84 : decode cX5_list 84 = .ok (.iload_n 2, 1) := by decide +kernel
theorem dX5_list_85 : decode cX5_list 85 = .ok (.ireturn, 1) := by decide +kernel
theorem dX5_code_0 : decode cX5_code 0 = .ok (.iload_n 1, 1) := by decide +kernel
theorem dX5_code_1 : decode cX5_code 1 = .ok (.ifCond .lt 19, 3) := by decide +kernel
theorem dX5_code_4 : decode cX5_code 4 = .ok (.iload_n 1, 1) := by decide +kernel
theorem dX5_code_5 : decode cX5_code 5 = .ok (.sipush 320, 3) := by decide +kernel
theorem dX5_code_8 : decode cX5_code 8 = .ok (.if_icmp .ge 12, 3) := by decide +kernel
theorem dX5_code_11 : decode cX5_code 11 = .ok (.aload_n 0, 1) := by decide +kernel
theorem dX5_code_12 : decode cX5_code 12 = .ok (.getfield 27, 3) := by decide +kernel
theorem dX5_code_15 : decode cX5_code 15 = .ok (.iload_n 1, 1) := by decide +kernel
theorem dX5_code_16 : decode cX5_code 16 = .ok (.iaload, 1) := by decide +kernel
theorem dX5_code_17 : decode cX5_code 17 = .ok (.goto 5, 3) := by decide +kernel
theorem dX5_code_20 : decode cX5_code 20 = .ok (.bipush (-6), 2) := by decide +kernel
theorem dX5_code_22 : decode cX5_code 22 = .ok (.ireturn, 1) := by decide +kernel
theorem dX5_learn_0 : decode cX5_learn 0 = .ok (.aload_n 0, 1) := by decide +kernel
theorem dX5_learn_1 : decode cX5_learn 1 = .ok (.getfield 9, 3) := by decide +kernel
theorem dX5_learn_4 : decode cX5_learn 4 = .ok (.iload_n 1, 1) := by decide +kernel
theorem dX5_learn_5 : decode cX5_learn 5 = .ok (.invokevirtual 59, 3) := by decide +kernel
theorem dX5_learn_8 : decode cX5_learn 8 = .ok (.ifCond .ne 5, 3) := by decide +kernel
theorem dX5_learn_11 : decode cX5_learn 11 = .ok (.iconst 0, 1) := by decide +kernel
theorem dX5_learn_12 : decode cX5_learn 12 = .ok (.ireturn, 1) := by decide +kernel
theorem dX5_learn_13 : decode cX5_learn 13 = .ok (.aload_n 0, 1) := by decide +kernel
theorem dX5_learn_14 : decode cX5_learn 14 = .ok (.iload_n 1, 1) := by decide +kernel
theorem dX5_learn_15 : decode cX5_learn 15 = .ok (.invokevirtual 63, 3) := by decide +kernel
theorem dX5_learn_18 : decode cX5_learn 18 = .ok (.istore_n 2, 1) := by decide +kernel
theorem dX5_learn_19 : decode cX5_learn 19 = .ok (.aload_n 0, 1) := by decide +kernel
theorem dX5_learn_20 : decode cX5_learn 20 = .ok (.getfield 31, 3) := by decide +kernel
theorem dX5_learn_23 : decode cX5_learn 23 = .ok (.iload_n 1, 1) := by decide +kernel
theorem dX5_learn_24 : decode cX5_learn 24 = .ok (.baload, 1) := by decide +kernel
theorem dX5_learn_25 : decode cX5_learn 25 = .ok (.ifCond .ne 58, 3) := by decide +kernel
theorem dX5_learn_28 : decode cX5_learn 28 = .ok (.iconst 0, 1) := by decide +kernel
theorem dX5_learn_29 : decode cX5_learn 29 = .ok (.istore_n 3, 1) := by decide +kernel
theorem dX5_learn_30 : decode cX5_learn 30 = .ok (.iload_n 3, 1) := by decide +kernel
theorem dX5_learn_31 : decode cX5_learn 31 = .ok (.iload_n 2, 1) := by decide +kernel
theorem dX5_learn_32 : decode cX5_learn 32 = .ok (.if_icmp .ge 44, 3) := by decide +kernel
theorem dX5_learn_35 : decode cX5_learn 35 = .ok (.aload_n 0, 1) := by decide +kernel
theorem dX5_learn_36 : decode cX5_learn 36 = .ok (.getfield 35, 3) := by decide +kernel
theorem dX5_learn_39 : decode cX5_learn 39 = .ok (.iload_n 1, 1) := by decide +kernel
theorem dX5_learn_40 : decode cX5_learn 40 = .ok (.sipush 320, 3) := by decide +kernel
theorem dX5_learn_43 : decode cX5_learn 43 = .ok (.imul, 1) := by decide +kernel
theorem dX5_learn_44 : decode cX5_learn 44 = .ok (.iload_n 3, 1) := by decide +kernel
theorem dX5_learn_45 : decode cX5_learn 45 = .ok (.iadd, 1) := by decide +kernel
theorem dX5_learn_46 : decode cX5_learn 46 = .ok (.aload_n 0, 1) := by decide +kernel
theorem dX5_learn_47 : decode cX5_learn 47 = .ok (.iload_n 1, 1) := by decide +kernel
theorem dX5_learn_48 : decode cX5_learn 48 = .ok (.aload_n 0, 1) := by decide +kernel
theorem dX5_learn_49 : decode cX5_learn 49 = .ok (.getfield 27, 3) := by decide +kernel
theorem dX5_learn_52 : decode cX5_learn 52 = .ok (.iload_n 3, 1) := by decide +kernel
theorem dX5_learn_53 : decode cX5_learn 53 = .ok (.iaload, 1) := by decide +kernel
theorem dX5_learn_54 : decode cX5_learn 54 = .ok (.bipush 100, 2) := by decide +kernel
theorem dX5_learn_56 : decode cX5_learn 56 = .ok (.idiv, 1) := by decide +kernel
theorem dX5_learn_57 : decode cX5_learn 57 = .ok (.aload_n 0, 1) := by decide +kernel
theorem dX5_learn_58 : decode cX5_learn 58 = .ok (.getfield 27, 3) := by decide +kernel
theorem dX5_learn_61 : decode cX5_learn 61 = .ok (.iload_n 3, 1) := by decide +kernel
theorem dX5_learn_62 : decode cX5_learn 62 = .ok (.iaload, 1) := by decide +kernel
theorem dX5_learn_63 : decode cX5_learn 63 = .ok (.bipush 100, 2) := by decide +kernel
theorem dX5_learn_65 : decode cX5_learn 65 = .ok (.irem, 1) := by decide +kernel
theorem dX5_learn_66 : decode cX5_learn 66 = .ok (.invokevirtual 66, 3) := by decide +kernel
theorem dX5_learn_69 : decode cX5_learn 69 = .ok (.iastore, 1) := by decide +kernel
theorem dX5_learn_70 : decode cX5_learn 70 = .ok (.iinc 3 1, 3) := by decide +kernel
theorem dX5_learn_73 : decode cX5_learn 73 = .ok (.goto (-43), 3) := by decide +kernel
theorem dX5_learn_76 : decode cX5_learn 76 = .ok (.aload_n 0, 1) := by decide +kernel
theorem dX5_learn_77 : decode cX5_learn 77 = .ok (.getfield 31, 3) := by decide +kernel
theorem dX5_learn_80 : decode cX5_learn 80 = .ok (.iload_n 1, 1) := by decide +kernel
theorem dX5_learn_81 : decode cX5_learn 81 = .ok (.iconst 1, 1) := by decide +kernel
theorem dX5_learn_82 : decode cX5_learn 82 = .ok (.bastore, 1) := by decide +kernel
theorem dX5_learn_83 : decode cX5_learn 83 = .ok (.iload_n 2, 1) := by decide +kernel
theorem dX5_learn_84 : decode cX5_learn 84 = .ok (.ireturn, 1) := by decide +kernel
theorem dX5_noticers_0 : decode cX5_noticers 0 = .ok (.aload_n 0, 1) := by decide +kernel
theorem dX5_noticers_1 : decode cX5_noticers 1 = .ok (.getfield 9, 3) := by decide +kernel
theorem dX5_noticers_4 : decode cX5_noticers 4 = .ok (.iload_n 1, 1) := by decide +kernel
theorem dX5_noticers_5 : decode cX5_noticers 5 = .ok (.invokevirtual 59, 3) := by decide +kernel
theorem dX5_noticers_8 : decode cX5_noticers 8 = .ok (.ifCond .eq 14, 3) := by decide +kernel
theorem dX5_noticers_11 : decode cX5_noticers 11 = .ok (.iload_n 2, 1) := by decide +kernel
theorem dX5_noticers_12 : decode cX5_noticers 12 = .ok (.ifCond .lt 10, 3) := by decide +kernel
theorem dX5_noticers_15 : decode cX5_noticers 15 = .ok (.iload_n 2, 1) := by decide +kernel
theorem dX5_noticers_16 : decode cX5_noticers 16 = .ok (.sipush 320, 3) := by decide +kernel
theorem dX5_noticers_19 : decode cX5_noticers 19 = .ok (.if_icmp .lt 5, 3) := by decide +kernel
theorem dX5_noticers_22 : decode cX5_noticers 22 = .ok (.iconst 0, 1) := by decide +kernel
theorem dX5_noticers_23 : decode cX5_noticers 23 = .ok (.ireturn, 1) := by decide +kernel
theorem dX5_noticers_24 : decode cX5_noticers 24 = .ok (.aload_n 0, 1) := by decide +kernel
theorem dX5_noticers_25 : decode cX5_noticers 25 = .ok (.getfield 35, 3) := by decide +kernel
theorem dX5_noticers_28 : decode cX5_noticers 28 = .ok (.iload_n 1, 1) := by decide +kernel
theorem dX5_noticers_29 : decode cX5_noticers 29 = .ok (.sipush 320, 3) := by decide +kernel
theorem dX5_noticers_32 : decode cX5_noticers 32 = .ok (.imul, 1) := by decide +kernel
theorem dX5_noticers_33 : decode cX5_noticers 33 = .ok (.iload_n 2, 1) := by decide +kernel
theorem dX5_noticers_34 : decode cX5_noticers 34 = .ok (.iadd, 1) := by decide +kernel
theorem dX5_noticers_35 : decode cX5_noticers 35 = .ok (.iaload, 1) := by decide +kernel
theorem dX5_noticers_36 : decode cX5_noticers 36 = .ok (.ireturn, 1) := by decide +kernel
theorem dX5_reckonNoticers_0 : decode cX5_reckonNoticers 0 = .ok (.aload_n 0, 1) := by decide +kernel
theorem dX5_reckonNoticers_1 : decode cX5_reckonNoticers 1 = .ok (.getfield 15, 3) := by decide +kernel
theorem dX5_reckonNoticers_4 : decode cX5_reckonNoticers 4 = .ok (.iload_n 1, 1) := by decide +kernel
theorem dX5_reckonNoticers_5 : decode cX5_reckonNoticers 5 = .ok (.invokevirtual 70, 3) := by decide +kernel
theorem dX5_reckonNoticers_8 : decode cX5_reckonNoticers 8 = .ok (.aload_n 0, 1) := by decide +kernel
theorem dX5_reckonNoticers_9 : decode cX5_reckonNoticers 9 = .ok (.getfield 15, 3) := by decide +kernel
theorem dX5_reckonNoticers_12 : decode cX5_reckonNoticers 12 = .ok (.iload_n 2, 1) := by decide +kernel
theorem dX5_reckonNoticers_13 : decode cX5_reckonNoticers 13 = .ok (.iload_n 1, 1) := by decide +kernel
theorem dX5_reckonNoticers_14 : decode cX5_reckonNoticers 14 = .ok (.invokevirtual 75, 3) := by decide +kernel
theorem dX5_reckonNoticers_17 : decode cX5_reckonNoticers 17 = .ok (.iand, 1) := by decide +kernel
theorem dX5_reckonNoticers_18 : decode cX5_reckonNoticers 18 = .ok (.istore 4, 2) := by decide +kernel
theorem dX5_reckonNoticers_20 : decode cX5_reckonNoticers 20 = .ok (.aload_n 0, 1) := by decide +kernel
theorem dX5_reckonNoticers_21 : decode cX5_reckonNoticers 21 = .ok (.getfield 23, 3) := by decide +kernel
theorem dX5_reckonNoticers_24 : decode cX5_reckonNoticers 24 = .ok (.aload_n 0, 1) := by decide +kernel
theorem dX5_reckonNoticers_25 : decode cX5_reckonNoticers 25 = .ok (.getfield 9, 3) := by decide +kernel
theorem dX5_reckonNoticers_28 : decode cX5_reckonNoticers 28 = .ok (.iload_n 1, 1) := by decide +kernel
theorem dX5_reckonNoticers_29 : decode cX5_reckonNoticers 29 = .ok (.iload_n 2, 1) := by decide +kernel
theorem dX5_reckonNoticers_30 : decode cX5_reckonNoticers 30 = .ok (.invokevirtual 38, 3) := by decide +kernel
theorem dX5_reckonNoticers_33 : decode cX5_reckonNoticers 33 = .ok (.invokevirtual 79, 3) := by decide +kernel
theorem dX5_reckonNoticers_36 : decode cX5_reckonNoticers 36 = .ok (.aload_n 0, 1) := by decide +kernel
theorem dX5_reckonNoticers_37 : decode cX5_reckonNoticers 37 = .ok (.getfield 23, 3) := by decide +kernel
theorem dX5_reckonNoticers_40 : decode cX5_reckonNoticers 40 = .ok (.iload_n 3, 1) := by decide +kernel
theorem dX5_reckonNoticers_41 : decode cX5_reckonNoticers 41 = .ok (.aload_n 0, 1) := by decide +kernel
theorem dX5_reckonNoticers_42 : decode cX5_reckonNoticers 42 = .ok (.getfield 23, 3) := by decide +kernel
theorem dX5_reckonNoticers_45 : decode cX5_reckonNoticers 45 = .ok (.iload_n 3, 1) := by decide +kernel
theorem dX5_reckonNoticers_46 : decode cX5_reckonNoticers 46 = .ok (.invokevirtual 50, 3) := by decide +kernel
theorem dX5_reckonNoticers_49 : decode cX5_reckonNoticers 49 = .ok (.invokestatic 54, 3) := by decide +kernel
theorem dX5_reckonNoticers_52 : decode cX5_reckonNoticers 52 = .ok (.invokevirtual 83, 3) := by decide +kernel
theorem dX5_reckonNoticers_55 : decode cX5_reckonNoticers 55 = .ok (.aload_n 0, 1) := by decide +kernel
theorem dX5_reckonNoticers_56 : decode cX5_reckonNoticers 56 = .ok (.getfield 19, 3) := by decide +kernel
theorem dX5_reckonNoticers_59 : decode cX5_reckonNoticers 59 = .ok (.aload_n 0, 1) := by decide +kernel
theorem dX5_reckonNoticers_60 : decode cX5_reckonNoticers 60 = .ok (.getfield 9, 3) := by decide +kernel
theorem dX5_reckonNoticers_63 : decode cX5_reckonNoticers 63 = .ok (.iload_n 1, 1) := by decide +kernel
theorem dX5_reckonNoticers_64 : decode cX5_reckonNoticers 64 = .ok (.invokevirtual 87, 3) := by decide +kernel
theorem dX5_reckonNoticers_67 : decode cX5_reckonNoticers 67 = .ok (.aload_n 0, 1) := by decide +kernel
theorem dX5_reckonNoticers_68 : decode cX5_reckonNoticers 68 = .ok (.getfield 19, 3) := by decide +kernel
theorem dX5_reckonNoticers_71 : decode cX5_reckonNoticers 71 = .ok (.iload_n 2, 1) := by decide +kernel
theorem dX5_reckonNoticers_72 : decode cX5_reckonNoticers 72 = .ok (.aload_n 0, 1) := by decide +kernel
theorem dX5_reckonNoticers_73 : decode cX5_reckonNoticers 73 = .ok (.getfield 23, 3) := by decide +kernel
theorem dX5_reckonNoticers_76 : decode cX5_reckonNoticers 76 = .ok (.invokevirtual 93, 3) := by decide +kernel
theorem dX5_reckonNoticers_79 : decode cX5_reckonNoticers 79 = .ok (.iconst 0, 1) := by decide +kernel
theorem dX5_reckonNoticers_80 : decode cX5_reckonNoticers 80 = .ok (.istore 5, 2) := by decide +kernel
theorem dX5_reckonNoticers_82 : decode cX5_reckonNoticers 82 = .ok (.iconst 0, 1) := by decide +kernel
theorem dX5_reckonNoticers_83 : decode cX5_reckonNoticers 83 = .ok (.istore 6, 2) := by decide +kernel
theorem dX5_reckonNoticers_85 : decode cX5_reckonNoticers 85 = .ok (.iload 6, 2) := by decide +kernel
theorem dX5_reckonNoticers_87 : decode cX5_reckonNoticers 87 = .ok (.aload_n 0, 1) := by decide +kernel
theorem dX5_reckonNoticers_88 : decode cX5_reckonNoticers 88 = .ok (.getfield 9, 3) := by decide +kernel
theorem dX5_reckonNoticers_91 : decode cX5_reckonNoticers 91 = .ok (.invokevirtual 97, 3) := by decide +kernel
theorem dX5_reckonNoticers_94 : decode cX5_reckonNoticers 94 = .ok (.if_icmp .ge 58, 3) := by decide +kernel
theorem dX5_reckonNoticers_97 : decode cX5_reckonNoticers 97 = .ok (.iload 4, 2) := by decide +kernel
theorem dX5_reckonNoticers_99 : decode cX5_reckonNoticers 99 = .ok (.iload 6, 2) := by decide +kernel
theorem dX5_reckonNoticers_101 : decode cX5_reckonNoticers 101 = .ok (.ishr, 1) := by decide +kernel
theorem dX5_reckonNoticers_102 : decode cX5_reckonNoticers 102 = .ok (.iconst 1, 1) := by decide +kernel
theorem dX5_reckonNoticers_103 : decode cX5_reckonNoticers 103 = .ok (.iand, 1) := by decide +kernel
theorem dX5_reckonNoticers_104 : decode cX5_reckonNoticers 104 = .ok (.iconst 1, 1) := by decide +kernel
theorem dX5_reckonNoticers_105 : decode cX5_reckonNoticers 105 = .ok (.if_icmp .ne 41, 3) := by decide +kernel
theorem dX5_reckonNoticers_108 : decode cX5_reckonNoticers 108 = .ok (.aload_n 0, 1) := by decide +kernel
theorem dX5_reckonNoticers_109 : decode cX5_reckonNoticers 109 = .ok (.getfield 19, 3) := by decide +kernel
theorem dX5_reckonNoticers_112 : decode cX5_reckonNoticers 112 = .ok (.aload_n 0, 1) := by decide +kernel
theorem dX5_reckonNoticers_113 : decode cX5_reckonNoticers 113 = .ok (.getfield 9, 3) := by decide +kernel
theorem dX5_reckonNoticers_116 : decode cX5_reckonNoticers 116 = .ok (.iload 6, 2) := by decide +kernel
theorem dX5_reckonNoticers_118 : decode cX5_reckonNoticers 118 = .ok (.invokevirtual 100, 3) := by decide +kernel
theorem dX5_reckonNoticers_121 : decode cX5_reckonNoticers 121 = .ok (.iconst 0, 1) := by decide +kernel
theorem dX5_reckonNoticers_122 : decode cX5_reckonNoticers 122 = .ok (.invokevirtual 104, 3) := by decide +kernel
theorem dX5_reckonNoticers_125 : decode cX5_reckonNoticers 125 = .ok (.aload_n 0, 1) := by decide +kernel
theorem dX5_reckonNoticers_126 : decode cX5_reckonNoticers 126 = .ok (.getfield 9, 3) := by decide +kernel
theorem dX5_reckonNoticers_129 : decode cX5_reckonNoticers 129 = .ok (.iload 6, 2) := by decide +kernel
theorem dX5_reckonNoticers_131 : decode cX5_reckonNoticers 131 = .ok (.invokevirtual 108, 3) := by decide +kernel
theorem dX5_reckonNoticers_134 : decode cX5_reckonNoticers 134 = .ok (.if_icmp .eq 12, 3) := by decide +kernel
theorem dX5_reckonNoticers_137 : decode cX5_reckonNoticers 137 = .ok (.iload 5, 2) := by decide +kernel
theorem dX5_reckonNoticers_139 : decode cX5_reckonNoticers 139 = .ok (.iconst 1, 1) := by decide +kernel
theorem dX5_reckonNoticers_140 : decode cX5_reckonNoticers 140 = .ok (.iload 6, 2) := by decide +kernel
theorem dX5_reckonNoticers_142 : decode cX5_reckonNoticers 142 = .ok (.ishl, 1) := by decide +kernel
theorem dX5_reckonNoticers_143 : decode cX5_reckonNoticers 143 = .ok (.ior, 1) := by decide +kernel
theorem dX5_reckonNoticers_144 : decode cX5_reckonNoticers 144 = .ok (.istore 5, 2) := by decide +kernel
theorem dX5_reckonNoticers_146 : decode cX5_reckonNoticers 146 = .ok (.iinc 6 1, 3) := by decide +kernel
theorem dX5_reckonNoticers_149 : decode cX5_reckonNoticers 149 = .ok (.goto (-64), 3) := by decide +kernel
theorem dX5_reckonNoticers_152 : decode cX5_reckonNoticers 152 = .ok (.iload 5, 2) := by decide +kernel
theorem dX5_reckonNoticers_154 : decode cX5_reckonNoticers 154 = .ok (.ireturn, 1) := by decide +kernel
theorem dX6_init_0 : decode cX6_init 0 = .ok (.aload_n 0, 1) := by decide +kernel
theorem dX6_init_1 : decode cX6_init 1 = .ok (.invokespecial 3, 3) := by decide +kernel
theorem dX6_init_4 : decode cX6_init 4 = .ok (.aload_n 0, 1) := by decide +kernel
theorem dX6_init_5 : decode cX6_init 5 = .ok (.iconst 0, 1) := by decide +kernel
theorem dX6_init_6 : decode cX6_init 6 = .ok (.iload_n 1, 1) := by decide +kernel
theorem dX6_init_7 : decode cX6_init 7 = .ok (.invokestatic 9, 3) := by decide +kernel
theorem dX6_init_10 : decode cX6_init 10 = .ok (.newarray .char, 2) := by decide +kernel
theorem dX6_init_12 : decode cX6_init 12 = .ok (.putfield 15, 3) := by decide +kernel
theorem dX6_init_15 : decode cX6_init 15 = .ok (.aload_n 0, 1) := by decide +kernel
theorem dX6_init_16 : decode cX6_init 16 = .ok (.iconst 0, 1) := by decide +kernel
theorem dX6_init_17 : decode cX6_init 17 = .ok (.putfield 21, 3) := by decide +kernel
theorem dX6_init_20 : decode cX6_init 20 = .ok (.return_, 1) := by decide +kernel
theorem dX6_count_0 : decode cX6_count 0 = .ok (.aload_n 0, 1) := by decide +kernel
theorem dX6_count_1 : decode cX6_count 1 = .ok (.getfield 21, 3) := by decide +kernel
theorem dX6_count_4 : decode cX6_count 4 = .ok (.ireturn, 1) := by decide +kernel
theorem dX6_sign_0 : decode cX6_sign 0 = .ok (.iload_n 1, 1) := by decide +kernel
theorem dX6_sign_1 : decode cX6_sign 1 = .ok (.ifCond .lt 20, 3) := by decide +kernel
theorem dX6_sign_4 : decode cX6_sign 4 = .ok (.iload_n 1, 1) := by decide +kernel
theorem dX6_sign_5 : decode cX6_sign 5 = .ok (.aload_n 0, 1) := by decide +kernel
theorem dX6_sign_6 : decode cX6_sign 6 = .ok (.getfield 21, 3) := by decide +kernel
theorem dX6_sign_9 : decode cX6_sign 9 = .ok (.if_icmp .ge 12, 3) := by decide +kernel
theorem dX6_sign_12 : decode cX6_sign 12 = .ok (.aload_n 0, 1) := by decide +kernel
theorem dX6_sign_13 : decode cX6_sign 13 = .ok (.getfield 15, 3) := by decide +kernel
theorem dX6_sign_16 : decode cX6_sign 16 = .ok (.iload_n 1, 1) := by decide +kernel
theorem dX6_sign_17 : decode cX6_sign 17 = .ok (.caload, 1) := by decide +kernel
theorem dX6_sign_18 : decode cX6_sign 18 = .ok (.goto 4, 3) := by decide +kernel
theorem dX6_sign_21 : decode cX6_sign 21 = .ok (.iconst 0, 1) := by decide +kernel
theorem dX6_sign_22 : decode cX6_sign 22 = .ok (.ireturn, 1) := by decide +kernel
theorem dX6_add_0 : decode cX6_add 0 = .ok (.aload_n 0, 1) := by decide +kernel
theorem dX6_add_1 : decode cX6_add 1 = .ok (.getfield 21, 3) := by decide +kernel
theorem dX6_add_4 : decode cX6_add 4 = .ok (.aload_n 0, 1) := by decide +kernel
theorem dX6_add_5 : decode cX6_add 5 = .ok (.getfield 15, 3) := by decide +kernel
theorem dX6_add_8 : decode cX6_add 8 = .ok (.arraylength, 1) := by decide +kernel
theorem dX6_add_9 : decode cX6_add 9 = .ok (.if_icmp .ge 24, 3) := by decide +kernel
theorem dX6_add_12 : decode cX6_add 12 = .ok (.aload_n 0, 1) := by decide +kernel
theorem dX6_add_13 : decode cX6_add 13 = .ok (.getfield 15, 3) := by decide +kernel
theorem dX6_add_16 : decode cX6_add 16 = .ok (.aload_n 0, 1) := by decide +kernel
theorem dX6_add_17 : decode cX6_add 17 = .ok (.getfield 21, 3) := by decide +kernel
theorem dX6_add_20 : decode cX6_add 20 = .ok (.iload_n 1, 1) := by decide +kernel
theorem dX6_add_21 : decode cX6_add 21 = .ok (.i2c, 1) := by decide +kernel
theorem dX6_add_22 : decode cX6_add 22 = .ok (.castore, 1) := by decide +kernel
theorem dX6_add_23 : decode cX6_add 23 = .ok (.aload_n 0, 1) := by decide +kernel
theorem dX6_add_24 : decode cX6_add 24 = .ok (.dup, 1) := by decide +kernel
theorem dX6_add_25 : decode cX6_add 25 = .ok (.getfield 21, 3) := by decide +kernel
theorem dX6_add_28 : decode cX6_add 28 = .ok (.iconst 1, 1) := by decide +kernel
theorem dX6_add_29 : decode cX6_add 29 = .ok (.iadd, 1) := by decide +kernel
theorem dX6_add_30 : decode cX6_add 30 = .ok (.putfield 21, 3) := by decide +kernel
theorem dX6_add_33 : decode cX6_add 33 = .ok (.return_, 1) := by decide +kernel
theorem dX6_put_0 : decode cX6_put 0 = .ok (.iload_n 1, 1) := by decide +kernel
theorem dX6_put_1 : decode cX6_put 1 = .ok (.ifCond .lt 19, 3) := by decide +kernel
theorem dX6_put_4 : decode cX6_put 4 = .ok (.iload_n 1, 1) := by decide +kernel
theorem dX6_put_5 : decode cX6_put 5 = .ok (.aload_n 0, 1) := by decide +kernel
theorem dX6_put_6 : decode cX6_put 6 = .ok (.getfield 21, 3) := by decide +kernel
theorem dX6_put_9 : decode cX6_put 9 = .ok (.if_icmp .ge 11, 3) := by decide +kernel
theorem dX6_put_12 : decode cX6_put 12 = .ok (.aload_n 0, 1) := by decide +kernel
theorem dX6_put_13 : decode cX6_put 13 = .ok (.getfield 15, 3) := by decide +kernel
theorem dX6_put_16 : decode cX6_put 16 = .ok (.iload_n 1, 1) := by decide +kernel
theorem dX6_put_17 : decode cX6_put 17 = .ok (.iload_n 2, 1) := by decide +kernel
theorem dX6_put_18 : decode cX6_put 18 = .ok (.i2c, 1) := by decide +kernel
theorem dX6_put_19 : decode cX6_put 19 = .ok (.castore, 1) := by decide +kernel
theorem dX6_put_20 : decode cX6_put 20 = .ok (.return_, 1) := by decide +kernel
theorem dX6_clear_0 : decode cX6_clear 0 = .ok (.aload_n 0, 1) := by decide +kernel
theorem dX6_clear_1 : decode cX6_clear 1 = .ok (.iconst 0, 1) := by decide +kernel
theorem dX6_clear_2 : decode cX6_clear 2 = .ok (.putfield 21, 3) := by decide +kernel
theorem dX6_clear_5 : decode cX6_clear 5 = .ok (.return_, 1) := by decide +kernel
theorem dX6_become_0 : decode cX6_become 0 = .ok (.aload_n 0, 1) := by decide +kernel
theorem dX6_become_1 : decode cX6_become 1 = .ok (.invokevirtual 25, 3) := by decide +kernel
theorem dX6_become_4 : decode cX6_become 4 = .ok (.iconst 0, 1) := by decide +kernel
theorem dX6_become_5 : decode cX6_become 5 = .ok (.istore_n 2, 1) := by decide +kernel
theorem dX6_become_6 : decode cX6_become 6 = .ok (.iload_n 2, 1) := by decide +kernel
theorem dX6_become_7 : decode cX6_become 7 = .ok (.aload_n 1, 1) := by decide +kernel
theorem dX6_become_8 : decode cX6_become 8 = .ok (.getfield 21, 3) := by decide +kernel
theorem dX6_become_11 : decode cX6_become 11 = .ok (.if_icmp .ge 19, 3) := by decide +kernel
theorem dX6_become_14 : decode cX6_become 14 = .ok (.aload_n 0, 1) := by decide +kernel
theorem dX6_become_15 : decode cX6_become 15 = .ok (.aload_n 1, 1) := by decide +kernel
theorem dX6_become_16 : decode cX6_become 16 = .ok (.getfield 15, 3) := by decide +kernel
theorem dX6_become_19 : decode cX6_become 19 = .ok (.iload_n 2, 1) := by decide +kernel
theorem dX6_become_20 : decode cX6_become 20 = .ok (.caload, 1) := by decide +kernel
theorem dX6_become_21 : decode cX6_become 21 = .ok (.invokevirtual 28, 3) := by decide +kernel
theorem dX6_become_24 : decode cX6_become 24 = .ok (.iinc 2 1, 3) := by decide +kernel
theorem dX6_become_27 : decode cX6_become 27 = .ok (.goto (-21), 3) := by decide +kernel
theorem dX6_become_30 : decode cX6_become 30 = .ok (.return_, 1) := by decide +kernel
theorem dX6_copy_0 : decode cX6_copy 0 = .ok (.new 16, 3) := by decide +kernel
theorem dX6_copy_3 : decode cX6_copy 3 = .ok (.dup, 1) := by decide +kernel
theorem dX6_copy_4 : decode cX6_copy 4 = .ok (.aload_n 0, 1) := by decide +kernel
theorem dX6_copy_5 : decode cX6_copy 5 = .ok (.getfield 21, 3) := by decide +kernel
theorem dX6_copy_8 : decode cX6_copy 8 = .ok (.invokespecial 32, 3) := by decide +kernel
theorem dX6_copy_11 : decode cX6_copy 11 = .ok (.astore_n 1, 1) := by decide +kernel
theorem dX6_copy_12 : decode cX6_copy 12 = .ok (.aload_n 1, 1) := by decide +kernel
theorem dX6_copy_13 : decode cX6_copy 13 = .ok (.aload_n 0, 1) := by decide +kernel
theorem dX6_copy_14 : decode cX6_copy 14 = .ok (.invokevirtual 34, 3) := by decide +kernel
theorem dX6_copy_17 : decode cX6_copy 17 = .ok (.aload_n 1, 1) := by decide +kernel
theorem dX6_copy_18 : decode cX6_copy 18 = .ok (.areturn, 1) := by decide +kernel
theorem dX6_isLike_0 : decode cX6_isLike 0 = .ok (.aload_n 0, 1) := by decide +kernel
theorem dX6_isLike_1 : decode cX6_isLike 1 = .ok (.getfield 21, 3) := by decide +kernel
theorem dX6_isLike_4 : decode cX6_isLike 4 = .ok (.aload_n 1, 1) := by decide +kernel
theorem dX6_isLike_5 : decode cX6_isLike 5 = .ok (.getfield 21, 3) := by decide +kernel
theorem dX6_isLike_8 : decode cX6_isLike 8 = .ok (.if_icmp .eq 5, 3) := by decide +kernel
theorem dX6_isLike_11 : decode cX6_isLike 11 = .ok (.iconst 0, 1) := by decide +kernel
theorem dX6_isLike_12 : decode cX6_isLike 12 = .ok (.ireturn, 1) := by decide +kernel
theorem dX6_isLike_13 : decode cX6_isLike 13 = .ok (.iconst 0, 1) := by decide +kernel
theorem dX6_isLike_14 : decode cX6_isLike 14 = .ok (.istore_n 2, 1) := by decide +kernel
theorem dX6_isLike_15 : decode cX6_isLike 15 = .ok (.iload_n 2, 1) := by decide +kernel
theorem dX6_isLike_16 : decode cX6_isLike 16 = .ok (.aload_n 0, 1) := by decide +kernel
theorem dX6_isLike_17 : decode cX6_isLike 17 = .ok (.getfield 21, 3) := by decide +kernel
theorem dX6_isLike_20 : decode cX6_isLike 20 = .ok (.if_icmp .ge 26, 3) := by decide +kernel
theorem dX6_isLike_23 : decode cX6_isLike 23 = .ok (.aload_n 0, 1) := by decide +kernel
theorem dX6_isLike_24 : decode cX6_isLike 24 = .ok (.getfield 15, 3) := by decide +kernel
theorem dX6_isLike_27 : decode cX6_isLike 27 = .ok (.iload_n 2, 1) := by decide +kernel
theorem dX6_isLike_28 : decode cX6_isLike 28 = .ok (.caload, 1) := by decide +kernel
theorem dX6_isLike_29 : decode cX6_isLike 29 = .ok (.aload_n 1, 1) := by decide +kernel
theorem dX6_isLike_30 : decode cX6_isLike 30 = .ok (.getfield 15, 3) := by decide +kernel
theorem dX6_isLike_33 : decode cX6_isLike 33 = .ok (.iload_n 2, 1) := by decide +kernel
theorem dX6_isLike_34 : decode cX6_isLike 34 = .ok (.caload, 1) := by decide +kernel
theorem dX6_isLike_35 : decode cX6_isLike 35 = .ok (.if_icmp .eq 5, 3) := by decide +kernel
theorem dX6_isLike_38 : decode cX6_isLike 38 = .ok (.iconst 0, 1) := by decide +kernel
theorem dX6_isLike_39 : decode cX6_isLike 39 = .ok (.ireturn, 1) := by decide +kernel
theorem dX6_isLike_40 : decode cX6_isLike 40 = .ok (.iinc 2 1, 3) := by decide +kernel
theorem dX6_isLike_43 : decode cX6_isLike 43 = .ok (.goto (-28), 3) := by decide +kernel
theorem dX6_isLike_46 : decode cX6_isLike 46 = .ok (.iconst 1, 1) := by decide +kernel
theorem dX6_isLike_47 : decode cX6_isLike 47 = .ok (.ireturn, 1) := by decide +kernel
theorem dX6_has_0 : decode cX6_has 0 = .ok (.iconst 0, 1) := by decide +kernel
theorem dX6_has_1 : decode cX6_has 1 = .ok (.istore_n 2, 1) := by decide +kernel
theorem dX6_has_2 : decode cX6_has 2 = .ok (.iload_n 2, 1) := by decide +kernel
theorem dX6_has_3 : decode cX6_has 3 = .ok (.aload_n 0, 1) := by decide +kernel
theorem dX6_has_4 : decode cX6_has 4 = .ok (.getfield 21, 3) := by decide +kernel
theorem dX6_has_7 : decode cX6_has 7 = .ok (.if_icmp .ge 21, 3) := by decide +kernel
theorem dX6_has_10 : decode cX6_has 10 = .ok (.aload_n 0, 1) := by decide +kernel
theorem dX6_has_11 : decode cX6_has 11 = .ok (.getfield 15, 3) := by decide +kernel
theorem dX6_has_14 : decode cX6_has 14 = .ok (.iload_n 2, 1) := by decide +kernel
theorem dX6_has_15 : decode cX6_has 15 = .ok (.caload, 1) := by decide +kernel
theorem dX6_has_16 : decode cX6_has 16 = .ok (.iload_n 1, 1) := by decide +kernel
theorem dX6_has_17 : decode cX6_has 17 = .ok (.if_icmp .ne 5, 3) := by decide +kernel
theorem dX6_has_20 : decode cX6_has 20 = .ok (.iconst 1, 1) := by decide +kernel
theorem dX6_has_21 : decode cX6_has 21 = .ok (.ireturn, 1) := by decide +kernel
theorem dX6_has_22 : decode cX6_has 22 = .ok (.iinc 2 1, 3) := by decide +kernel
theorem dX6_has_25 : decode cX6_has 25 = .ok (.goto (-23), 3) := by decide +kernel
theorem dX6_has_28 : decode cX6_has 28 = .ok (.iconst 0, 1) := by decide +kernel
theorem dX6_has_29 : decode cX6_has 29 = .ok (.ireturn, 1) := by decide +kernel
theorem dX6_named_0 : decode cX6_named 0 = .ok (.iconst 0, 1) := by decide +kernel
theorem dX6_named_1 : decode cX6_named 1 = .ok (.istore_n 1, 1) := by decide +kernel
theorem dX6_named_2 : decode cX6_named 2 = .ok (.iconst 0, 1) := by decide +kernel
theorem dX6_named_3 : decode cX6_named 3 = .ok (.istore_n 2, 1) := by decide +kernel
theorem dX6_named_4 : decode cX6_named 4 = .ok (.iload_n 2, 1) := by decide +kernel
theorem dX6_named_5 : decode cX6_named 5 = .ok (.aload_n 0, 1) := by decide +kernel
theorem dX6_named_6 : decode cX6_named 6 = .ok (.getfield 21, 3) := by decide +kernel
theorem dX6_named_9 : decode cX6_named 9 = .ok (.if_icmp .ge 35, 3) := by decide +kernel
theorem dX6_named_12 : decode cX6_named 12 = .ok (.aload_n 0, 1) := by decide +kernel
theorem dX6_named_13 : decode cX6_named 13 = .ok (.getfield 15, 3) := by decide +kernel
theorem dX6_named_16 : decode cX6_named 16 = .ok (.iload_n 2, 1) := by decide +kernel
theorem dX6_named_17 : decode cX6_named 17 = .ok (.caload, 1) := by decide +kernel
theorem dX6_named_18 : decode cX6_named 18 = .ok (.invokestatic 38, 3) := by decide +kernel
theorem dX6_named_21 : decode cX6_named 21 = .ok (.ifCond .eq 17, 3) := by decide +kernel
theorem dX6_named_24 : decode cX6_named 24 = .ok (.iload_n 1, 1) := by decide +kernel
theorem dX6_named_25 : decode cX6_named 25 = .ok (.iconst 1, 1) := by decide +kernel
theorem dX6_named_26 : decode cX6_named 26 = .ok (.aload_n 0, 1) := by decide +kernel
theorem dX6_named_27 : decode cX6_named 27 = .ok (.getfield 15, 3) := by decide +kernel
theorem dX6_named_30 : decode cX6_named 30 = .ok (.iload_n 2, 1) := by decide +kernel
theorem dX6_named_31 : decode cX6_named 31 = .ok (.caload, 1) := by decide +kernel
theorem dX6_named_32 : decode cX6_named 32 = .ok (.bipush 97, 2) := by decide +kernel
theorem dX6_named_34 : decode cX6_named 34 = .ok (.isub, 1) := by decide +kernel
theorem dX6_named_35 : decode cX6_named 35 = .ok (.ishl, 1) := by decide +kernel
theorem dX6_named_36 : decode cX6_named 36 = .ok (.ior, 1) := by decide +kernel
theorem dX6_named_37 : decode cX6_named 37 = .ok (.istore_n 1, 1) := by decide +kernel
theorem dX6_named_38 : decode cX6_named 38 = .ok (.iinc 2 1, 3) := by decide +kernel
theorem dX6_named_41 : decode cX6_named 41 = .ok (.goto (-37), 3) := by decide +kernel
theorem dX6_named_44 : decode cX6_named 44 = .ok (.iload_n 1, 1) := by decide +kernel
theorem dX6_named_45 : decode cX6_named 45 = .ok (.ireturn, 1) := by decide +kernel
theorem dX6_firstFault_0 : decode cX6_firstFault 0 = .ok (.aload_n 0, 1) := by decide +kernel
theorem dX6_firstFault_1 : decode cX6_firstFault 1 = .ok (.iconst 0, 1) := by decide +kernel
theorem dX6_firstFault_2 : decode cX6_firstFault 2 = .ok (.iconst 0, 1) := by decide +kernel
theorem dX6_firstFault_3 : decode cX6_firstFault 3 = .ok (.invokevirtual 44, 3) := by decide +kernel
theorem dX6_firstFault_6 : decode cX6_firstFault 6 = .ok (.istore_n 1, 1) := by decide +kernel
theorem dX6_firstFault_7 : decode cX6_firstFault 7 = .ok (.iload_n 1, 1) := by decide +kernel
theorem dX6_firstFault_8 : decode cX6_firstFault 8 = .ok (.ifCond .ge 7, 3) := by decide +kernel
theorem dX6_firstFault_11 : decode cX6_firstFault 11 = .ok (.iconst (-1), 1) := by decide +kernel
theorem dX6_firstFault_12 : decode cX6_firstFault 12 = .ok (.iload_n 1, 1) := by decide +kernel
theorem dX6_firstFault_13 : decode cX6_firstFault 13 = .ok (.isub, 1) := by decide +kernel
theorem dX6_firstFault_14 : decode cX6_firstFault 14 = .ok (.ireturn, 1) := by decide +kernel
theorem dX6_firstFault_15 : decode cX6_firstFault 15 = .ok (.iload_n 1, 1) := by decide +kernel
theorem dX6_firstFault_16 : decode cX6_firstFault 16 = .ok (.aload_n 0, 1) := by decide +kernel
theorem dX6_firstFault_17 : decode cX6_firstFault 17 = .ok (.getfield 21, 3) := by decide +kernel
theorem dX6_firstFault_20 : decode cX6_firstFault 20 = .ok (.if_icmp .ge 7, 3) := by decide +kernel
theorem dX6_firstFault_23 : decode cX6_firstFault 23 = .ok (.iload_n 1, 1) := by decide +kernel
theorem dX6_firstFault_24 : decode cX6_firstFault 24 = .ok (.goto 5, 3) := by decide +kernel
theorem dX6_firstFault_27 : decode cX6_firstFault 27 = .ok (.bipush (-6), 2) := by decide +kernel
theorem dX6_firstFault_29 : decode cX6_firstFault 29 = .ok (.ireturn, 1) := by decide +kernel
theorem dX6_endOf_0 : decode cX6_endOf 0 = .ok (.aload_n 0, 1) := by decide +kernel
theorem dX6_endOf_1 : decode cX6_endOf 1 = .ok (.iload_n 1, 1) := by decide +kernel
theorem dX6_endOf_2 : decode cX6_endOf 2 = .ok (.invokevirtual 47, 3) := by decide +kernel
theorem dX6_endOf_5 : decode cX6_endOf 5 = .ok (.invokestatic 51, 3) := by decide +kernel
theorem dX6_endOf_8 : decode cX6_endOf 8 = .ok (.istore_n 3, 1) := by decide +kernel
theorem dX6_endOf_9 : decode cX6_endOf 9 = .ok (.iload_n 3, 1) := by decide +kernel
theorem dX6_endOf_10 : decode cX6_endOf 10 = .ok (.ifCond .lt 13, 3) := by decide +kernel
theorem dX6_endOf_13 : decode cX6_endOf 13 = .ok (.iload_n 3, 1) := by decide +kernel
theorem dX6_endOf_14 : decode cX6_endOf 14 = .ok (.ifCond .le 13, 3) := by decide +kernel
theorem dX6_endOf_17 : decode cX6_endOf 17 = .ok (.iload_n 2, 1) := by decide +kernel
theorem dX6_endOf_18 : decode cX6_endOf 18 = .ok (.bipush 6, 2) := by decide +kernel
theorem dX6_endOf_20 : decode cX6_endOf 20 = .ok (.if_icmp .lt 7, 3) := by decide +kernel
theorem dX6_endOf_23 : decode cX6_endOf 23 = .ok (.iconst (-1), 1) := by decide +kernel
theorem dX6_endOf_24 : decode cX6_endOf 24 = .ok (.iload_n 1, 1) := by decide +kernel
theorem dX6_endOf_25 : decode cX6_endOf 25 = .ok (.isub, 1) := by decide +kernel
theorem dX6_endOf_26 : decode cX6_endOf 26 = .ok (.ireturn, 1) := by decide +kernel
theorem dX6_endOf_27 : decode cX6_endOf 27 = .ok (.iload_n 1, 1) := by decide +kernel
theorem dX6_endOf_28 : decode cX6_endOf 28 = .ok (.iconst 1, 1) := by decide +kernel
theorem dX6_endOf_29 : decode cX6_endOf 29 = .ok (.iadd, 1) := by decide +kernel
theorem dX6_endOf_30 : decode cX6_endOf 30 = .ok (.istore 4, 2) := by decide +kernel
theorem dX6_endOf_32 : decode cX6_endOf 32 = .ok (.iconst 0, 1) := by decide +kernel
theorem dX6_endOf_33 : decode cX6_endOf 33 = .ok (.istore 5, 2) := by decide +kernel
theorem dX6_endOf_35 : decode cX6_endOf 35 = .ok (.iload 5, 2) := by decide +kernel
theorem dX6_endOf_37 : decode cX6_endOf 37 = .ok (.iload_n 3, 1) := by decide +kernel
theorem dX6_endOf_38 : decode cX6_endOf 38 = .ok (.if_icmp .ge 25, 3) := by decide +kernel
theorem dX6_endOf_41 : decode cX6_endOf 41 = .ok (.iload 4, 2) := by decide +kernel
theorem dX6_endOf_43 : decode cX6_endOf 43 = .ok (.ifCond .lt 20, 3) := by decide +kernel
theorem dX6_endOf_46 : decode cX6_endOf 46 = .ok (.aload_n 0, 1) := by decide +kernel
theorem dX6_endOf_47 : decode cX6_endOf 47 = .ok (.iload 4, 2) := by decide +kernel
theorem dX6_endOf_49 : decode cX6_endOf 49 = .ok (.iload_n 2, 1) := by decide +kernel
theorem dX6_endOf_50 : decode cX6_endOf 50 = .ok (.iconst 1, 1) := by decide +kernel
theorem dX6_endOf_51 : decode cX6_endOf 51 = .ok (.iadd, 1) := by decide +kernel
theorem dX6_endOf_52 : decode cX6_endOf 52 = .ok (.invokevirtual 44, 3) := by decide +kernel
theorem dX6_endOf_55 : decode cX6_endOf 55 = .ok (.istore 4, 2) := by decide +kernel
theorem dX6_endOf_57 : decode cX6_endOf 57 = .ok (.iinc 5 1, 3) := by decide +kernel
theorem dX6_endOf_60 : decode cX6_endOf 60 = .ok (.goto (-25), 3) := by decide +kernel
theorem dX6_endOf_63 : decode cX6_endOf 63 = .ok (.iload 4, 2) := by decide +kernel
theorem dX6_endOf_65 : decode cX6_endOf 65 = .ok (.ireturn, 1) := by decide +kernel
theorem dX6_behind_0 : decode cX6_behind 0 = .ok (.iconst 1, 1) := by decide +kernel
theorem dX6_behind_1 : decode cX6_behind 1 = .ok (.istore_n 2, 1) := by decide +kernel
theorem dX6_behind_2 : decode cX6_behind 2 = .ok (.iconst 0, 1) := by decide +kernel
theorem dX6_behind_3 : decode cX6_behind 3 = .ok (.iload_n 1, 1) := by decide +kernel
theorem dX6_behind_4 : decode cX6_behind 4 = .ok (.invokestatic 9, 3) := by decide +kernel
theorem dX6_behind_7 : decode cX6_behind 7 = .ok (.istore_n 3, 1) := by decide +kernel
theorem dX6_behind_8 : decode cX6_behind 8 = .ok (.iload_n 3, 1) := by decide +kernel
theorem dX6_behind_9 : decode cX6_behind 9 = .ok (.aload_n 0, 1) := by decide +kernel
theorem dX6_behind_10 : decode cX6_behind 10 = .ok (.getfield 21, 3) := by decide +kernel
theorem dX6_behind_13 : decode cX6_behind 13 = .ok (.if_icmp .ge 31, 3) := by decide +kernel
theorem dX6_behind_16 : decode cX6_behind 16 = .ok (.iload_n 2, 1) := by decide +kernel
theorem dX6_behind_17 : decode cX6_behind 17 = .ok (.aload_n 0, 1) := by decide +kernel
theorem dX6_behind_18 : decode cX6_behind 18 = .ok (.getfield 15, 3) := by decide +kernel
theorem dX6_behind_21 : decode cX6_behind 21 = .ok (.iload_n 3, 1) := by decide +kernel
theorem dX6_behind_22 : decode cX6_behind 22 = .ok (.caload, 1) := by decide +kernel
theorem dX6_behind_23 : decode cX6_behind 23 = .ok (.invokestatic 51, 3) := by decide +kernel
theorem dX6_behind_26 : decode cX6_behind 26 = .ok (.iconst 1, 1) := by decide +kernel
theorem dX6_behind_27 : decode cX6_behind 27 = .ok (.isub, 1) := by decide +kernel
theorem dX6_behind_28 : decode cX6_behind 28 = .ok (.iadd, 1) := by decide +kernel
theorem dX6_behind_29 : decode cX6_behind 29 = .ok (.istore_n 2, 1) := by decide +kernel
theorem dX6_behind_30 : decode cX6_behind 30 = .ok (.iload_n 2, 1) := by decide +kernel
theorem dX6_behind_31 : decode cX6_behind 31 = .ok (.ifCond .gt 7, 3) := by decide +kernel
theorem dX6_behind_34 : decode cX6_behind 34 = .ok (.iload_n 3, 1) := by decide +kernel
theorem dX6_behind_35 : decode cX6_behind 35 = .ok (.iconst 1, 1) := by decide +kernel
theorem dX6_behind_36 : decode cX6_behind 36 = .ok (.iadd, 1) := by decide +kernel
theorem dX6_behind_37 : decode cX6_behind 37 = .ok (.ireturn, 1) := by decide +kernel
theorem dX6_behind_38 : decode cX6_behind 38 = .ok (.iinc 3 1, 3) := by decide +kernel
theorem dX6_behind_41 : decode cX6_behind 41 = .ok (.goto (-33), 3) := by decide +kernel
theorem dX6_behind_44 : decode cX6_behind 44 = .ok (.aload_n 0, 1) := by decide +kernel
theorem dX6_behind_45 : decode cX6_behind 45 = .ok (.getfield 21, 3) := by decide +kernel
theorem dX6_behind_48 : decode cX6_behind 48 = .ok (.ireturn, 1) := by decide +kernel
theorem dJ6_bitCount_0f7a4_0 : decode cJ6_bitCount_0f7a4 0 = .ok (.iload_n 0, 1) := by decide +kernel
theorem dJ6_bitCount_0f7a4_1 : decode cJ6_bitCount_0f7a4 1 = .ok (.iload_n 0, 1) := by decide +kernel
theorem dJ6_bitCount_0f7a4_2 : decode cJ6_bitCount_0f7a4 2 = .ok (.iconst 1, 1) := by decide +kernel
theorem dJ6_bitCount_0f7a4_3 : decode cJ6_bitCount_0f7a4 3 = .ok (.iushr, 1) := by decide +kernel
theorem dJ6_bitCount_0f7a4_4 : decode cJ6_bitCount_0f7a4 4 = .ok (.ldc_w 265, 3) := by decide +kernel
theorem dJ6_bitCount_0f7a4_7 : decode cJ6_bitCount_0f7a4 7 = .ok (.iand, 1) := by decide +kernel
theorem dJ6_bitCount_0f7a4_8 : decode cJ6_bitCount_0f7a4 8 = .ok (.isub, 1) := by decide +kernel
theorem dJ6_bitCount_0f7a4_9 : decode cJ6_bitCount_0f7a4 9 = .ok (.istore_n 0, 1) := by decide +kernel
theorem dJ6_bitCount_0f7a4_10 : decode cJ6_bitCount_0f7a4 10 = .ok (.iload_n 0, 1) := by decide +kernel
theorem dJ6_bitCount_0f7a4_11 : decode cJ6_bitCount_0f7a4 11 = .ok (.ldc_w 266, 3) := by decide +kernel
theorem dJ6_bitCount_0f7a4_14 : decode cJ6_bitCount_0f7a4 14 = .ok (.iand, 1) := by decide +kernel
theorem dJ6_bitCount_0f7a4_15 : decode cJ6_bitCount_0f7a4 15 = .ok (.iload_n 0, 1) := by decide +kernel
theorem dJ6_bitCount_0f7a4_16 : decode cJ6_bitCount_0f7a4 16 = .ok (.iconst 2, 1) := by decide +kernel
theorem dJ6_bitCount_0f7a4_17 : decode cJ6_bitCount_0f7a4 17 = .ok (.iushr, 1) := by decide +kernel
theorem dJ6_bitCount_0f7a4_18 : decode cJ6_bitCount_0f7a4 18 = .ok (.ldc_w 266, 3) := by decide +kernel
theorem dJ6_bitCount_0f7a4_21 : decode cJ6_bitCount_0f7a4 21 = .ok (.iand, 1) := by decide +kernel
theorem dJ6_bitCount_0f7a4_22 : decode cJ6_bitCount_0f7a4 22 = .ok (.iadd, 1) := by decide +kernel
theorem dJ6_bitCount_0f7a4_23 : decode cJ6_bitCount_0f7a4 23 = .ok (.istore_n 0, 1) := by decide +kernel
theorem dJ6_bitCount_0f7a4_24 : decode cJ6_bitCount_0f7a4 24 = .ok (.iload_n 0, 1) := by decide +kernel
theorem dJ6_bitCount_0f7a4_25 : decode cJ6_bitCount_0f7a4 25 = .ok (.iload_n 0, 1) := by decide +kernel
theorem dJ6_bitCount_0f7a4_26 : decode cJ6_bitCount_0f7a4 26 = .ok (.iconst 4, 1) := by decide +kernel
theorem dJ6_bitCount_0f7a4_27 : decode cJ6_bitCount_0f7a4 27 = .ok (.iushr, 1) := by decide +kernel
theorem dJ6_bitCount_0f7a4_28 : decode cJ6_bitCount_0f7a4 28 = .ok (.iadd, 1) := by decide +kernel
theorem dJ6_bitCount_0f7a4_29 : decode cJ6_bitCount_0f7a4 29 = .ok (.ldc_w 267, 3) := by decide +kernel
theorem dJ6_bitCount_0f7a4_32 : decode cJ6_bitCount_0f7a4 32 = .ok (.iand, 1) := by decide +kernel
theorem dJ6_bitCount_0f7a4_33 : decode cJ6_bitCount_0f7a4 33 = .ok (.istore_n 0, 1) := by decide +kernel
theorem dJ6_bitCount_0f7a4_34 : decode cJ6_bitCount_0f7a4 34 = .ok (.iload_n 0, 1) := by decide +kernel
theorem dJ6_bitCount_0f7a4_35 : decode cJ6_bitCount_0f7a4 35 = .ok (.iload_n 0, 1) := by decide +kernel
theorem dJ6_bitCount_0f7a4_36 : decode cJ6_bitCount_0f7a4 36 = .ok (.bipush 8, 2) := by decide +kernel
theorem dJ6_bitCount_0f7a4_38 : decode cJ6_bitCount_0f7a4 38 = .ok (.iushr, 1) := by decide +kernel
theorem dJ6_bitCount_0f7a4_39 : decode cJ6_bitCount_0f7a4 39 = .ok (.iadd, 1) := by decide +kernel
theorem dJ6_bitCount_0f7a4_40 : decode cJ6_bitCount_0f7a4 40 = .ok (.istore_n 0, 1) := by decide +kernel
theorem dJ6_bitCount_0f7a4_41 : decode cJ6_bitCount_0f7a4 41 = .ok (.iload_n 0, 1) := by decide +kernel
theorem dJ6_bitCount_0f7a4_42 : decode cJ6_bitCount_0f7a4 42 = .ok (.iload_n 0, 1) := by decide +kernel
theorem dJ6_bitCount_0f7a4_43 : decode cJ6_bitCount_0f7a4 43 = .ok (.bipush 16, 2) := by decide +kernel
theorem dJ6_bitCount_0f7a4_45 : decode cJ6_bitCount_0f7a4 45 = .ok (.iushr, 1) := by decide +kernel
theorem dJ6_bitCount_0f7a4_46 : decode cJ6_bitCount_0f7a4 46 = .ok (.iadd, 1) := by decide +kernel
theorem dJ6_bitCount_0f7a4_47 : decode cJ6_bitCount_0f7a4 47 = .ok (.istore_n 0, 1) := by decide +kernel
theorem dJ6_bitCount_0f7a4_48 : decode cJ6_bitCount_0f7a4 48 = .ok (.iload_n 0, 1) := by decide +kernel
theorem dJ6_bitCount_0f7a4_49 : decode cJ6_bitCount_0f7a4 49 = .ok (.bipush 63, 2) := by decide +kernel
theorem dJ6_bitCount_0f7a4_51 : decode cJ6_bitCount_0f7a4 51 = .ok (.iand, 1) := by decide +kernel
theorem dJ6_bitCount_0f7a4_52 : decode cJ6_bitCount_0f7a4 52 = .ok (.ireturn, 1) := by decide +kernel
theorem dJ9_floorMod_7cf53_0 : decode cJ9_floorMod_7cf53 0 = .ok (.iload_n 0, 1) := by decide +kernel
theorem dJ9_floorMod_7cf53_1 : decode cJ9_floorMod_7cf53 1 = .ok (.iload_n 1, 1) := by decide +kernel
theorem dJ9_floorMod_7cf53_2 : decode cJ9_floorMod_7cf53 2 = .ok (.irem, 1) := by decide +kernel
theorem dJ9_floorMod_7cf53_3 : decode cJ9_floorMod_7cf53 3 = .ok (.istore_n 2, 1) := by decide +kernel
theorem dJ9_floorMod_7cf53_4 : decode cJ9_floorMod_7cf53 4 = .ok (.iload_n 0, 1) := by decide +kernel
theorem dJ9_floorMod_7cf53_5 : decode cJ9_floorMod_7cf53 5 = .ok (.iload_n 1, 1) := by decide +kernel
theorem dJ9_floorMod_7cf53_6 : decode cJ9_floorMod_7cf53 6 = .ok (.ixor, 1) := by decide +kernel
theorem dJ9_floorMod_7cf53_7 : decode cJ9_floorMod_7cf53 7 = .ok (.ifCond .ge 11, 3) := by decide +kernel
theorem dJ9_floorMod_7cf53_10 : decode cJ9_floorMod_7cf53 10 = .ok (.iload_n 2, 1) := by decide +kernel
theorem dJ9_floorMod_7cf53_11 : decode cJ9_floorMod_7cf53 11 = .ok (.ifCond .eq 7, 3) := by decide +kernel
theorem dJ9_floorMod_7cf53_14 : decode cJ9_floorMod_7cf53 14 = .ok (.iload_n 2, 1) := by decide +kernel
theorem dJ9_floorMod_7cf53_15 : decode cJ9_floorMod_7cf53 15 = .ok (.iload_n 1, 1) := by decide +kernel
theorem dJ9_floorMod_7cf53_16 : decode cJ9_floorMod_7cf53 16 = .ok (.iadd, 1) := by decide +kernel
theorem dJ9_floorMod_7cf53_17 : decode cJ9_floorMod_7cf53 17 = .ok (.ireturn, 1) := by decide +kernel
theorem dJ9_floorMod_7cf53_18 : decode cJ9_floorMod_7cf53 18 = .ok (.iload_n 2, 1) := by decide +kernel
theorem dJ9_floorMod_7cf53_19 : decode cJ9_floorMod_7cf53 19 = .ok (.ireturn, 1) := by decide +kernel
theorem dJ9_max_7cf53_0 : decode cJ9_max_7cf53 0 = .ok (.iload_n 0, 1) := by decide +kernel
theorem dJ9_max_7cf53_1 : decode cJ9_max_7cf53 1 = .ok (.iload_n 1, 1) := by decide +kernel
theorem dJ9_max_7cf53_2 : decode cJ9_max_7cf53 2 = .ok (.if_icmp .lt 7, 3) := by decide +kernel
theorem dJ9_max_7cf53_5 : decode cJ9_max_7cf53 5 = .ok (.iload_n 0, 1) := by decide +kernel
theorem dJ9_max_7cf53_6 : decode cJ9_max_7cf53 6 = .ok (.goto 4, 3) := by decide +kernel
theorem dJ9_max_7cf53_9 : decode cJ9_max_7cf53 9 = .ok (.iload_n 1, 1) := by decide +kernel
theorem dJ9_max_7cf53_10 : decode cJ9_max_7cf53 10 = .ok (.ireturn, 1) := by decide +kernel
theorem dJ9_min_7cf53_0 : decode cJ9_min_7cf53 0 = .ok (.iload_n 0, 1) := by decide +kernel
theorem dJ9_min_7cf53_1 : decode cJ9_min_7cf53 1 = .ok (.iload_n 1, 1) := by decide +kernel
theorem dJ9_min_7cf53_2 : decode cJ9_min_7cf53 2 = .ok (.if_icmp .gt 7, 3) := by decide +kernel
theorem dJ9_min_7cf53_5 : decode cJ9_min_7cf53 5 = .ok (.iload_n 0, 1) := by decide +kernel
theorem dJ9_min_7cf53_6 : decode cJ9_min_7cf53 6 = .ok (.goto 4, 3) := by decide +kernel
theorem dJ9_min_7cf53_9 : decode cJ9_min_7cf53 9 = .ok (.iload_n 1, 1) := by decide +kernel
theorem dJ9_min_7cf53_10 : decode cJ9_min_7cf53 10 = .ok (.ireturn, 1) := by decide +kernel
