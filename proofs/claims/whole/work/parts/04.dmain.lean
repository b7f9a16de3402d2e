theorem dX10_init_0 : decode cX10_init 0 = .ok (.aload_n 0, 1) := by decide +kernel
theorem dX10_init_1 : decode cX10_init 1 = .ok (.invokespecial 1, 3) := by decide +kernel
theorem dX10_init_4 : decode cX10_init 4 = .ok (.bipush 6, 2) := by decide +kernel
theorem dX10_init_6 : decode cX10_init 6 = .ok (.anewarray 7, 3) := by decide +kernel
theorem dX10_init_9 : decode cX10_init 9 = .ok (.dup, 1) := by decide +kernel
theorem dX10_init_10 : decode cX10_init 10 = .ok (.iconst 0, 1) := by decide +kernel
theorem dX10_init_11 : decode cX10_init 11 = .ok (.new 7, 3) := by decide +kernel
theorem dX10_init_14 : decode cX10_init 14 = .ok (.dup, 1) := by decide +kernel
theorem dX10_init_15 : decode cX10_init 15 = .ok (.invokespecial 9, 3) := by decide +kernel
theorem dX10_init_18 : decode cX10_init 18 = .ok (.aastore, 1) := by decide +kernel
theorem dX10_init_19 : decode cX10_init 19 = .ok (.dup, 1) := by decide +kernel
theorem dX10_init_20 : decode cX10_init 20 = .ok (.iconst 1, 1) := by decide +kernel
theorem dX10_init_21 : decode cX10_init 21 = .ok (.new 10, 3) := by decide +kernel
theorem dX10_init_24 : decode cX10_init 24 = .ok (.dup, 1) := by decide +kernel
theorem dX10_init_25 : decode cX10_init 25 = .ok (.invokespecial 12, 3) := by decide +kernel
theorem dX10_init_28 : decode cX10_init 28 = .ok (.aastore, 1) := by decide +kernel
theorem dX10_init_29 : decode cX10_init 29 = .ok (.dup, 1) := by decide +kernel
theorem dX10_init_30 : decode cX10_init 30 = .ok (.iconst 2, 1) := by decide +kernel
theorem dX10_init_31 : decode cX10_init 31 = .ok (.new 13, 3) := by decide +kernel
theorem dX10_init_34 : decode cX10_init 34 = .ok (.dup, 1) := by decide +kernel
theorem dX10_init_35 : decode cX10_init 35 = .ok (.invokespecial 15, 3) := by decide +kernel
theorem dX10_init_38 : decode cX10_init 38 = .ok (.aastore, 1) := by decide +kernel
theorem dX10_init_39 : decode cX10_init 39 = .ok (.dup, 1) := by decide +kernel
theorem dX10_init_40 : decode cX10_init 40 = .ok (.iconst 3, 1) := by decide +kernel
theorem dX10_init_41 : decode cX10_init 41 = .ok (.new 16, 3) := by decide +kernel
theorem dX10_init_44 : decode cX10_init 44 = .ok (.dup, 1) := by decide +kernel
theorem dX10_init_45 : decode cX10_init 45 = .ok (.invokespecial 18, 3) := by decide +kernel
theorem dX10_init_48 : decode cX10_init 48 = .ok (.aastore, 1) := by decide +kernel
theorem dX10_init_49 : decode cX10_init 49 = .ok (.dup, 1) := by decide +kernel
theorem dX10_init_50 : decode cX10_init 50 = .ok (.iconst 4, 1) := by decide +kernel
theorem dX10_init_51 : decode cX10_init 51 = .ok (.new 19, 3) := by decide +kernel
theorem dX10_init_54 : decode cX10_init 54 = .ok (.dup, 1) := by decide +kernel
theorem dX10_init_55 : decode cX10_init 55 = .ok (.invokespecial 21, 3) := by decide +kernel
theorem dX10_init_58 : decode cX10_init 58 = .ok (.aastore, 1) := by decide +kernel
theorem dX10_init_59 : decode cX10_init 59 = .ok (.dup, 1) := by decide +kernel
theorem dX10_init_60 : decode cX10_init 60 = .ok (.iconst 5, 1) := by decide +kernel
theorem dX10_init_61 : decode cX10_init 61 = .ok (.new 22, 3) := by decide +kernel
theorem dX10_init_64 : decode cX10_init 64 = .ok (.dup, 1) := by decide +kernel
theorem dX10_init_65 : decode cX10_init 65 = .ok (.invokespecial 24, 3) := by decide +kernel
theorem dX10_init_68 : decode cX10_init 68 = .ok (.aastore, 1) := by decide +kernel
theorem dX10_init_69 : decode cX10_init 69 = .ok (.astore_n 1, 1) := by decide +kernel
theorem dX10_init_70 : decode cX10_init 70 = .ok (.aload_n 0, 1) := by decide +kernel
theorem dX10_init_71 : decode cX10_init 71 = .ok (.new 25, 3) := by decide +kernel
theorem dX10_init_74 : decode cX10_init 74 = .ok (.dup, 1) := by decide +kernel
theorem dX10_init_75 : decode cX10_init 75 = .ok (.aload_n 1, 1) := by decide +kernel
theorem dX10_init_76 : decode cX10_init 76 = .ok (.invokespecial 27, 3) := by decide +kernel
theorem dX10_init_79 : decode cX10_init 79 = .ok (.putfield 30, 3) := by decide +kernel
theorem dX10_init_82 : decode cX10_init 82 = .ok (.aload_n 0, 1) := by decide +kernel
theorem dX10_init_83 : decode cX10_init 83 = .ok (.new 25, 3) := by decide +kernel
theorem dX10_init_86 : decode cX10_init 86 = .ok (.dup, 1) := by decide +kernel
theorem dX10_init_87 : decode cX10_init 87 = .ok (.aload_n 1, 1) := by decide +kernel
theorem dX10_init_88 : decode cX10_init 88 = .ok (.invokespecial 27, 3) := by decide +kernel
theorem dX10_init_91 : decode cX10_init 91 = .ok (.putfield 36, 3) := by decide +kernel
theorem dX10_init_94 : decode cX10_init 94 = .ok (.aload_n 0, 1) := by decide +kernel
theorem dX10_init_95 : decode cX10_init 95 = .ok (.new 25, 3) := by decide +kernel
theorem dX10_init_98 : decode cX10_init 98 = .ok (.dup, 1) := by decide +kernel
theorem dX10_init_99 : decode cX10_init 99 = .ok (.aload_n 1, 1) := by decide +kernel
theorem dX10_init_100 : decode cX10_init 100 = .ok (.invokespecial 27, 3) := by decide +kernel
theorem dX10_init_103 : decode cX10_init 103 = .ok (.putfield 39, 3) := by decide +kernel
theorem dX10_init_106 : decode cX10_init 106 = .ok (.aload_n 0, 1) := by decide +kernel
theorem dX10_init_107 : decode cX10_init 107 = .ok (.iconst 0, 1) := by decide +kernel
theorem dX10_init_108 : decode cX10_init 108 = .ok (.putfield 42, 3) := by decide +kernel
theorem dX10_init_111 : decode cX10_init 111 = .ok (.aload_n 0, 1) := by decide +kernel
theorem dX10_init_112 : decode cX10_init 112 = .ok (.new 46, 3) := by decide +kernel
theorem dX10_init_115 : decode cX10_init 115 = .ok (.dup, 1) := by decide +kernel
theorem dX10_init_116 : decode cX10_init 116 = .ok (.invokespecial 48, 3) := by decide +kernel
theorem dX10_init_119 : decode cX10_init 119 = .ok (.putfield 49, 3) := by decide +kernel
theorem dX10_init_122 : decode cX10_init 122 = .ok (.aload_n 0, 1) := by decide +kernel
theorem dX10_init_123 : decode cX10_init 123 = .ok (.new 53, 3) := by decide +kernel
theorem dX10_init_126 : decode cX10_init 126 = .ok (.dup, 1) := by decide +kernel
theorem dX10_init_127 : decode cX10_init 127 = .ok (.aload_n 0, 1) := by decide +kernel
theorem dX10_init_128 : decode cX10_init 128 = .ok (.getfield 49, 3) := by decide +kernel
theorem dX10_init_131 : decode cX10_init 131 = .ok (.aload_n 0, 1) := by decide +kernel
theorem dX10_init_132 : decode cX10_init 132 = .ok (.getfield 36, 3) := by decide +kernel
theorem dX10_init_135 : decode cX10_init 135 = .ok (.invokespecial 55, 3) := by decide +kernel
theorem dX10_init_138 : decode cX10_init 138 = .ok (.putfield 58, 3) := by decide +kernel
theorem dX10_init_141 : decode cX10_init 141 = .ok (.aload_n 0, 1) := by decide +kernel
theorem dX10_init_142 : decode cX10_init 142 = .ok (.iconst 4, 1) := by decide +kernel
theorem dX10_init_143 : decode cX10_init 143 = .ok (.anewarray 62, 3) := by decide +kernel
theorem dX10_init_146 : decode cX10_init 146 = .ok (.putfield 64, 3) := by decide +kernel
theorem dX10_init_149 : decode cX10_init 149 = .ok (.iconst 0, 1) := by decide +kernel
theorem dX10_init_150 : decode cX10_init 150 = .ok (.istore_n 2, 1) := by decide +kernel
theorem dX10_init_151 : decode cX10_init 151 = .ok (.iload_n 2, 1) := by decide +kernel
theorem dX10_init_152 : decode cX10_init 152 = .ok (.iconst 4, 1) := by decide +kernel
theorem dX10_init_153 : decode cX10_init 153 = .ok (.if_icmp .ge 22, 3) := by decide +kernel
theorem dX10_init_156 : decode cX10_init 156 = .ok (.aload_n 0, 1) := by decide +kernel
theorem dX10_init_157 : decode cX10_init 157 = .ok (.getfield 64, 3) := by decide +kernel
theorem dX10_init_160 : decode cX10_init 160 = .ok (.iload_n 2, 1) := by decide +kernel
theorem dX10_init_161 : decode cX10_init 161 = .ok (.new 62, 3) := by decide +kernel
theorem dX10_init_164 : decode cX10_init 164 = .ok (.dup, 1) := by decide +kernel
theorem dX10_init_165 : decode cX10_init 165 = .ok (.invokespecial 68, 3) := by decide +kernel
theorem dX10_init_168 : decode cX10_init 168 = .ok (.aastore, 1) := by decide +kernel
theorem dX10_init_169 : decode cX10_init 169 = .ok (.iinc 2 1, 3) := by decide +kernel
theorem dX10_init_172 : decode cX10_init 172 = .ok (.goto (-21), 3) := by decide +kernel
theorem dX10_init_175 : decode cX10_init 175 = .ok (.aload_n 0, 1) := by decide +kernel
theorem dX10_init_176 : decode cX10_init 176 = .ok (.bipush 7, 2) := by decide +kernel
theorem dX10_init_178 : decode cX10_init 178 = .ok (.newarray .int, 2) := by decide +kernel
theorem dX10_init_180 : decode cX10_init 180 = .ok (.putfield 69, 3) := by decide +kernel
theorem dX10_init_183 : decode cX10_init 183 = .ok (.return_, 1) := by decide +kernel
theorem dX10_worth_0 : decode cX10_worth 0 = .ok (.iload_n 1, 1) := by decide +kernel
theorem dX10_worth_1 : decode cX10_worth 1 = .ok (.invokestatic 73, 3) := by decide +kernel
theorem dX10_worth_4 : decode cX10_worth 4 = .ok (.ifCond .eq 10, 3) := by decide +kernel
theorem dX10_worth_7 : decode cX10_worth 7 = .ok (.iload_n 2, 1) := by decide +kernel
theorem dX10_worth_8 : decode cX10_worth 8 = .ok (.invokestatic 77, 3) := by decide +kernel
theorem dX10_worth_11 : decode cX10_worth 11 = .ok (.ifCond .ne 10, 3) := by decide +kernel
theorem dX10_worth_14 : decode cX10_worth 14 = .ok (.aload_n 0, 1) := by decide +kernel
theorem dX10_worth_15 : decode cX10_worth 15 = .ok (.ldc 80, 2) := by decide +kernel
theorem dX10_worth_17 : decode cX10_worth 17 = .ok (.invokevirtual 81, 3) := by decide +kernel
theorem dX10_worth_20 : decode cX10_worth 20 = .ok (.ireturn, 1) := by decide +kernel
theorem dX10_worth_21 : decode cX10_worth 21 = .ok (.aload_n 0, 1) := by decide +kernel
theorem dX10_worth_22 : decode cX10_worth 22 = .ok (.getfield 30, 3) := by decide +kernel
theorem dX10_worth_25 : decode cX10_worth 25 = .ok (.getfield 85, 3) := by decide +kernel
theorem dX10_worth_28 : decode cX10_worth 28 = .ok (.iload_n 1, 1) := by decide +kernel
theorem dX10_worth_29 : decode cX10_worth 29 = .ok (.iaload, 1) := by decide +kernel
theorem dX10_worth_30 : decode cX10_worth 30 = .ok (.istore_n 3, 1) := by decide +kernel
theorem dX10_worth_31 : decode cX10_worth 31 = .ok (.aload_n 0, 1) := by decide +kernel
theorem dX10_worth_32 : decode cX10_worth 32 = .ok (.getfield 30, 3) := by decide +kernel
theorem dX10_worth_35 : decode cX10_worth 35 = .ok (.getfield 85, 3) := by decide +kernel
theorem dX10_worth_38 : decode cX10_worth 38 = .ok (.iload_n 1, 1) := by decide +kernel
theorem dX10_worth_39 : decode cX10_worth 39 = .ok (.iload_n 2, 1) := by decide +kernel
theorem dX10_worth_40 : decode cX10_worth 40 = .ok (.iastore, 1) := by decide +kernel
theorem dX10_worth_41 : decode cX10_worth 41 = .ok (.iload_n 3, 1) := by decide +kernel
theorem dX10_worth_42 : decode cX10_worth 42 = .ok (.ireturn, 1) := by decide +kernel
theorem dX10_worthOf_0 : decode cX10_worthOf 0 = .ok (.iload_n 1, 1) := by decide +kernel
theorem dX10_worthOf_1 : decode cX10_worthOf 1 = .ok (.invokestatic 73, 3) := by decide +kernel
theorem dX10_worthOf_4 : decode cX10_worthOf 4 = .ok (.ifCond .ne 10, 3) := by decide +kernel
theorem dX10_worthOf_7 : decode cX10_worthOf 7 = .ok (.aload_n 0, 1) := by decide +kernel
theorem dX10_worthOf_8 : decode cX10_worthOf 8 = .ok (.ldc 80, 2) := by decide +kernel
theorem dX10_worthOf_10 : decode cX10_worthOf 10 = .ok (.invokevirtual 81, 3) := by decide +kernel
theorem dX10_worthOf_13 : decode cX10_worthOf 13 = .ok (.ireturn, 1) := by decide +kernel
theorem dX10_worthOf_14 : decode cX10_worthOf 14 = .ok (.aload_n 0, 1) := by decide +kernel
theorem dX10_worthOf_15 : decode cX10_worthOf 15 = .ok (.getfield 30, 3) := by decide +kernel
theorem dX10_worthOf_18 : decode cX10_worthOf 18 = .ok (.getfield 85, 3) := by decide +kernel
theorem dX10_worthOf_21 : decode cX10_worthOf 21 = .ok (.iload_n 1, 1) := by decide +kernel
theorem dX10_worthOf_22 : decode cX10_worthOf 22 = .ok (.iaload, 1) := by decide +kernel
theorem dX10_worthOf_23 : decode cX10_worthOf 23 = .ok (.ireturn, 1) := by decide +kernel
theorem dX10_who_0 : decode cX10_who 0 = .ok (.iload_n 1, 1) := by decide +kernel
theorem dX10_who_1 : decode cX10_who 1 = .ok (.invokestatic 73, 3) := by decide +kernel
theorem dX10_who_4 : decode cX10_who 4 = .ok (.ifCond .ne 10, 3) := by decide +kernel
theorem dX10_who_7 : decode cX10_who 7 = .ok (.aload_n 0, 1) := by decide +kernel
theorem dX10_who_8 : decode cX10_who 8 = .ok (.ldc 80, 2) := by decide +kernel
theorem dX10_who_10 : decode cX10_who 10 = .ok (.invokevirtual 81, 3) := by decide +kernel
theorem dX10_who_13 : decode cX10_who 13 = .ok (.ireturn, 1) := by decide +kernel
theorem dX10_who_14 : decode cX10_who 14 = .ok (.iconst 0, 1) := by decide +kernel
theorem dX10_who_15 : decode cX10_who 15 = .ok (.istore_n 2, 1) := by decide +kernel
theorem dX10_who_16 : decode cX10_who 16 = .ok (.iconst 0, 1) := by decide +kernel
theorem dX10_who_17 : decode cX10_who 17 = .ok (.istore_n 3, 1) := by decide +kernel
theorem dX10_who_18 : decode cX10_who 18 = .ok (.iload_n 3, 1) := by decide +kernel
theorem dX10_who_19 : decode cX10_who 19 = .ok (.aload_n 0, 1) := by decide +kernel
theorem dX10_who_20 : decode cX10_who 20 = .ok (.getfield 30, 3) := by decide +kernel
theorem dX10_who_23 : decode cX10_who 23 = .ok (.getfield 88, 3) := by decide +kernel
theorem dX10_who_26 : decode cX10_who 26 = .ok (.if_icmp .ge 27, 3) := by decide +kernel
theorem dX10_who_29 : decode cX10_who 29 = .ok (.aload_n 0, 1) := by decide +kernel
theorem dX10_who_30 : decode cX10_who 30 = .ok (.getfield 30, 3) := by decide +kernel
theorem dX10_who_33 : decode cX10_who 33 = .ok (.iload_n 3, 1) := by decide +kernel
theorem dX10_who_34 : decode cX10_who 34 = .ok (.iload_n 1, 1) := by decide +kernel
theorem dX10_who_35 : decode cX10_who 35 = .ok (.invokevirtual 92, 3) := by decide +kernel
theorem dX10_who_38 : decode cX10_who 38 = .ok (.ifCond .eq 9, 3) := by decide +kernel
theorem dX10_who_41 : decode cX10_who 41 = .ok (.iload_n 2, 1) := by decide +kernel
theorem dX10_who_42 : decode cX10_who 42 = .ok (.iconst 1, 1) := by decide +kernel
theorem dX10_who_43 : decode cX10_who 43 = .ok (.iload_n 3, 1) := by decide +kernel
theorem dX10_who_44 : decode cX10_who 44 = .ok (.ishl, 1) := by decide +kernel
theorem dX10_who_45 : decode cX10_who 45 = .ok (.ior, 1) := by decide +kernel
theorem dX10_who_46 : decode cX10_who 46 = .ok (.istore_n 2, 1) := by decide +kernel
theorem dX10_who_47 : decode cX10_who 47 = .ok (.iinc 3 1, 3) := by decide +kernel
theorem dX10_who_50 : decode cX10_who 50 = .ok (.goto (-32), 3) := by decide +kernel
theorem dX10_who_53 : decode cX10_who 53 = .ok (.iload_n 2, 1) := by decide +kernel
theorem dX10_who_54 : decode cX10_who 54 = .ok (.ireturn, 1) := by decide +kernel
theorem dX10_person_0 : decode cX10_person 0 = .ok (.iload_n 1, 1) := by decide +kernel
theorem dX10_person_1 : decode cX10_person 1 = .ok (.invokestatic 96, 3) := by decide +kernel
theorem dX10_person_4 : decode cX10_person 4 = .ok (.ifCond .ne 10, 3) := by decide +kernel
theorem dX10_person_7 : decode cX10_person 7 = .ok (.aload_n 0, 1) := by decide +kernel
theorem dX10_person_8 : decode cX10_person 8 = .ok (.ldc 80, 2) := by decide +kernel
theorem dX10_person_10 : decode cX10_person 10 = .ok (.invokevirtual 81, 3) := by decide +kernel
theorem dX10_person_13 : decode cX10_person 13 = .ok (.ireturn, 1) := by decide +kernel
theorem dX10_person_14 : decode cX10_person 14 = .ok (.aload_n 0, 1) := by decide +kernel
theorem dX10_person_15 : decode cX10_person 15 = .ok (.getfield 30, 3) := by decide +kernel
theorem dX10_person_18 : decode cX10_person 18 = .ok (.getfield 88, 3) := by decide +kernel
theorem dX10_person_21 : decode cX10_person 21 = .ok (.bipush 8, 2) := by decide +kernel
theorem dX10_person_23 : decode cX10_person 23 = .ok (.if_icmp .lt 10, 3) := by decide +kernel
theorem dX10_person_26 : decode cX10_person 26 = .ok (.aload_n 0, 1) := by decide +kernel
theorem dX10_person_27 : decode cX10_person 27 = .ok (.ldc 99, 2) := by decide +kernel
theorem dX10_person_29 : decode cX10_person 29 = .ok (.invokevirtual 81, 3) := by decide +kernel
theorem dX10_person_32 : decode cX10_person 32 = .ok (.ireturn, 1) := by decide +kernel
theorem dX10_person_33 : decode cX10_person 33 = .ok (.aload_n 0, 1) := by decide +kernel
theorem dX10_person_34 : decode cX10_person 34 = .ok (.getfield 30, 3) := by decide +kernel
theorem dX10_person_37 : decode cX10_person 37 = .ok (.iload_n 1, 1) := by decide +kernel
theorem dX10_person_38 : decode cX10_person 38 = .ok (.invokevirtual 100, 3) := by decide +kernel
theorem dX10_person_41 : decode cX10_person 41 = .ok (.ireturn, 1) := by decide +kernel
theorem dX10_of_0 : decode cX10_of 0 = .ok (.aload_n 0, 1) := by decide +kernel
theorem dX10_of_1 : decode cX10_of 1 = .ok (.iload_n 1, 1) := by decide +kernel
theorem dX10_of_2 : decode cX10_of 2 = .ok (.invokevirtual 103, 3) := by decide +kernel
theorem dX10_of_5 : decode cX10_of 5 = .ok (.ifCond .ne 10, 3) := by decide +kernel
theorem dX10_of_8 : decode cX10_of 8 = .ok (.aload_n 0, 1) := by decide +kernel
theorem dX10_of_9 : decode cX10_of 9 = .ok (.ldc 80, 2) := by decide +kernel
theorem dX10_of_11 : decode cX10_of 11 = .ok (.invokevirtual 81, 3) := by decide +kernel
theorem dX10_of_14 : decode cX10_of 14 = .ok (.ireturn, 1) := by decide +kernel
theorem dX10_of_15 : decode cX10_of 15 = .ok (.iload_n 2, 1) := by decide +kernel
theorem dX10_of_16 : decode cX10_of 16 = .ok (.tableswitch 138 0 8 #[52, 62, 72, 82, 92, 102, 111, 120, 129], 52) := by decide +kernel
theorem dX10_of_68 : decode cX10_of 68 = .ok (.aload_n 0, 1) := by decide +kernel
theorem dX10_of_69 : decode cX10_of 69 = .ok (.getfield 30, 3) := by decide +kernel
theorem dX10_of_72 : decode cX10_of 72 = .ok (.getfield 106, 3) := by decide +kernel
theorem dX10_of_75 : decode cX10_of 75 = .ok (.iload_n 1, 1) := by decide +kernel
theorem dX10_of_76 : decode cX10_of 76 = .ok (.iaload, 1) := by decide +kernel
theorem dX10_of_77 : decode cX10_of 77 = .ok (.ireturn, 1) := by decide +kernel
theorem dX10_of_78 : decode cX10_of 78 = .ok (.aload_n 0, 1) := by decide +kernel
theorem dX10_of_79 : decode cX10_of 79 = .ok (.getfield 30, 3) := by decide +kernel
theorem dX10_of_82 : decode cX10_of 82 = .ok (.getfield 109, 3) := by decide +kernel
theorem dX10_of_85 : decode cX10_of 85 = .ok (.iload_n 1, 1) := by decide +kernel
theorem dX10_of_86 : decode cX10_of 86 = .ok (.iaload, 1) := by decide +kernel
theorem dX10_of_87 : decode cX10_of 87 = .ok (.ireturn, 1) := by decide +kernel
theorem dX10_of_88 : decode cX10_of 88 = .ok (.aload_n 0, 1) := by decide +kernel
theorem dX10_of_89 : decode cX10_of 89 = .ok (.getfield 30, 3) := by decide +kernel
theorem dX10_of_92 : decode cX10_of 92 = .ok (.getfield 112, 3) := by decide +kernel
theorem dX10_of_95 : decode cX10_of 95 = .ok (.iload_n 1, 1) := by decide +kernel
theorem dX10_of_96 : decode cX10_of 96 = .ok (.iaload, 1) := by decide +kernel
theorem dX10_of_97 : decode cX10_of 97 = .ok (.ireturn, 1) := by decide +kernel
theorem dX10_of_98 : decode cX10_of 98 = .ok (.aload_n 0, 1) := by decide +kernel
theorem dX10_of_99 : decode cX10_of 99 = .ok (.getfield 30, 3) := by decide +kernel
theorem dX10_of_102 : decode cX10_of 102 = .ok (.getfield 115, 3) := by decide +kernel
theorem dX10_of_105 : decode cX10_of 105 = .ok (.iload_n 1, 1) := by decide +kernel
theorem dX10_of_106 : decode cX10_of 106 = .ok (.iaload, 1) := by decide +kernel
theorem dX10_of_107 : decode cX10_of 107 = .ok (.ireturn, 1) := by decide +kernel
theorem dX10_of_108 : decode cX10_of 108 = .ok (.aload_n 0, 1) := by decide +kernel
theorem dX10_of_109 : decode cX10_of 109 = .ok (.getfield 30, 3) := by decide +kernel
theorem dX10_of_112 : decode cX10_of 112 = .ok (.getfield 118, 3) := by decide +kernel
theorem dX10_of_115 : decode cX10_of 115 = .ok (.iload_n 1, 1) := by decide +kernel
theorem dX10_of_116 : decode cX10_of 116 = .ok (.iaload, 1) := by decide +kernel
theorem dX10_of_117 : decode cX10_of 117 = .ok (.ireturn, 1) := by decide +kernel
theorem dX10_of_118 : decode cX10_of 118 = .ok (.aload_n 0, 1) := by decide +kernel
theorem dX10_of_119 : decode cX10_of 119 = .ok (.getfield 30, 3) := by decide +kernel
theorem dX10_of_122 : decode cX10_of 122 = .ok (.iload_n 1, 1) := by decide +kernel
theorem dX10_of_123 : decode cX10_of 123 = .ok (.invokevirtual 121, 3) := by decide +kernel
theorem dX10_of_126 : decode cX10_of 126 = .ok (.ireturn, 1) := by decide +kernel
theorem dX10_of_127 : decode cX10_of 127 = .ok (.aload_n 0, 1) := by decide +kernel
theorem dX10_of_128 : decode cX10_of 128 = .ok (.getfield 30, 3) := by decide +kernel
theorem dX10_of_131 : decode cX10_of 131 = .ok (.iload_n 1, 1) := by decide +kernel
theorem dX10_of_132 : decode cX10_of 132 = .ok (.invokevirtual 124, 3) := by decide +kernel
theorem dX10_of_135 : decode cX10_of 135 = .ok (.ireturn, 1) := by decide +kernel
theorem dX10_of_136 : decode cX10_of 136 = .ok (.aload_n 0, 1) := by decide +kernel
theorem dX10_of_137 : decode cX10_of 137 = .ok (.getfield 30, 3) := by decide +kernel
theorem dX10_of_140 : decode cX10_of 140 = .ok (.iload_n 1, 1) := by decide +kernel
theorem dX10_of_141 : decode cX10_of 141 = .ok (.invokevirtual 127, 3) := by decide +kernel
theorem dX10_of_144 : decode cX10_of 144 = .ok (.ireturn, 1) := by decide +kernel
theorem dX10_of_145 : decode cX10_of 145 = .ok (.aload_n 0, 1) := by decide +kernel
theorem dX10_of_146 : decode cX10_of 146 = .ok (.getfield 30, 3) := by decide +kernel
theorem dX10_of_149 : decode cX10_of 149 = .ok (.iload_n 1, 1) := by decide +kernel
theorem dX10_of_150 : decode cX10_of 150 = .ok (.invokevirtual 130, 3) := by decide +kernel
theorem dX10_of_153 : decode cX10_of 153 = .ok (.ireturn, 1) := by decide +kernel
theorem dX10_of_154 : decode cX10_of 154 = .ok (.aload_n 0, 1) := by decide +kernel
theorem dX10_of_155 : decode cX10_of 155 = .ok (.ldc 80, 2) := by decide +kernel
theorem dX10_of_157 : decode cX10_of 157 = .ok (.invokevirtual 81, 3) := by decide +kernel
theorem dX10_of_160 : decode cX10_of 160 = .ok (.ireturn, 1) := by decide +kernel
theorem dX10_set_0 : decode cX10_set 0 = .ok (.aload_n 0, 1) := by decide +kernel
theorem dX10_set_1 : decode cX10_set 1 = .ok (.iload_n 1, 1) := by decide +kernel
theorem dX10_set_2 : decode cX10_set 2 = .ok (.invokevirtual 103, 3) := by decide +kernel
theorem dX10_set_5 : decode cX10_set 5 = .ok (.ifCond .ne 10, 3) := by decide +kernel
theorem dX10_set_8 : decode cX10_set 8 = .ok (.aload_n 0, 1) := by decide +kernel
theorem dX10_set_9 : decode cX10_set 9 = .ok (.ldc 80, 2) := by decide +kernel
theorem dX10_set_11 : decode cX10_set 11 = .ok (.invokevirtual 81, 3) := by decide +kernel
theorem dX10_set_14 : decode cX10_set 14 = .ok (.ireturn, 1) := by decide +kernel
theorem dX10_set_15 : decode cX10_set 15 = .ok (.iload_n 2, 1) := by decide +kernel
theorem dX10_set_16 : decode cX10_set 16 = .ok (.tableswitch 108 1 4 #[32, 49, 66, 90], 32) := by decide +kernel
theorem dX10_set_48 : decode cX10_set 48 = .ok (.aload_n 0, 1) := by decide +kernel
theorem dX10_set_49 : decode cX10_set 49 = .ok (.aload_n 0, 1) := by decide +kernel
theorem dX10_set_50 : decode cX10_set 50 = .ok (.getfield 30, 3) := by decide +kernel
theorem dX10_set_53 : decode cX10_set 53 = .ok (.getfield 109, 3) := by decide +kernel
theorem dX10_set_56 : decode cX10_set 56 = .ok (.iload_n 1, 1) := by decide +kernel
theorem dX10_set_57 : decode cX10_set 57 = .ok (.iload_n 3, 1) := by decide +kernel
theorem dX10_set_58 : decode cX10_set 58 = .ok (.iconst 0, 1) := by decide +kernel
theorem dX10_set_59 : decode cX10_set 59 = .ok (.bipush 70, 2) := by decide +kernel
theorem dX10_set_61 : decode cX10_set 61 = .ok (.invokevirtual 133, 3) := by decide +kernel
theorem dX10_set_64 : decode cX10_set 64 = .ok (.ireturn, 1) := by decide +kernel
theorem dX10_set_65 : decode cX10_set 65 = .ok (.aload_n 0, 1) := by decide +kernel
theorem dX10_set_66 : decode cX10_set 66 = .ok (.aload_n 0, 1) := by decide +kernel
theorem dX10_set_67 : decode cX10_set 67 = .ok (.getfield 30, 3) := by decide +kernel
theorem dX10_set_70 : decode cX10_set 70 = .ok (.getfield 112, 3) := by decide +kernel
theorem dX10_set_73 : decode cX10_set 73 = .ok (.iload_n 1, 1) := by decide +kernel
theorem dX10_set_74 : decode cX10_set 74 = .ok (.iload_n 3, 1) := by decide +kernel
theorem dX10_set_75 : decode cX10_set 75 = .ok (.iconst 0, 1) := by decide +kernel
theorem dX10_set_76 : decode cX10_set 76 = .ok (.ldc 137, 2) := by decide +kernel
theorem dX10_set_78 : decode cX10_set 78 = .ok (.invokevirtual 133, 3) := by decide +kernel
theorem dX10_set_81 : decode cX10_set 81 = .ok (.ireturn, 1) := by decide +kernel
theorem dX10_set_82 : decode cX10_set 82 = .ok (.aload_n 0, 1) := by decide +kernel
theorem dX10_set_83 : decode cX10_set 83 = .ok (.aload_n 0, 1) := by decide +kernel
theorem dX10_set_84 : decode cX10_set 84 = .ok (.getfield 30, 3) := by decide +kernel
theorem dX10_set_87 : decode cX10_set 87 = .ok (.getfield 115, 3) := by decide +kernel
theorem dX10_set_90 : decode cX10_set 90 = .ok (.iload_n 1, 1) := by decide +kernel
theorem dX10_set_91 : decode cX10_set 91 = .ok (.iload_n 3, 1) := by decide +kernel
theorem dX10_set_92 : decode cX10_set 92 = .ok (.iconst (-1), 1) := by decide +kernel
theorem dX10_set_93 : decode cX10_set 93 = .ok (.aload_n 0, 1) := by decide +kernel
theorem dX10_set_94 : decode cX10_set 94 = .ok (.getfield 30, 3) := by decide +kernel
theorem dX10_set_97 : decode cX10_set 97 = .ok (.getfield 88, 3) := by decide +kernel
theorem dX10_set_100 : decode cX10_set 100 = .ok (.iconst 1, 1) := by decide +kernel
theorem dX10_set_101 : decode cX10_set 101 = .ok (.isub, 1) := by decide +kernel
theorem dX10_set_102 : decode cX10_set 102 = .ok (.invokevirtual 133, 3) := by decide +kernel
theorem dX10_set_105 : decode cX10_set 105 = .ok (.ireturn, 1) := by decide +kernel
theorem dX10_set_106 : decode cX10_set 106 = .ok (.aload_n 0, 1) := by decide +kernel
theorem dX10_set_107 : decode cX10_set 107 = .ok (.aload_n 0, 1) := by decide +kernel
theorem dX10_set_108 : decode cX10_set 108 = .ok (.getfield 30, 3) := by decide +kernel
theorem dX10_set_111 : decode cX10_set 111 = .ok (.getfield 118, 3) := by decide +kernel
theorem dX10_set_114 : decode cX10_set 114 = .ok (.iload_n 1, 1) := by decide +kernel
theorem dX10_set_115 : decode cX10_set 115 = .ok (.iload_n 3, 1) := by decide +kernel
theorem dX10_set_116 : decode cX10_set 116 = .ok (.iconst 0, 1) := by decide +kernel
theorem dX10_set_117 : decode cX10_set 117 = .ok (.sipush 999, 3) := by decide +kernel
theorem dX10_set_120 : decode cX10_set 120 = .ok (.invokevirtual 133, 3) := by decide +kernel
theorem dX10_set_123 : decode cX10_set 123 = .ok (.ireturn, 1) := by decide +kernel
theorem dX10_set_124 : decode cX10_set 124 = .ok (.aload_n 0, 1) := by decide +kernel
theorem dX10_set_125 : decode cX10_set 125 = .ok (.ldc 80, 2) := by decide +kernel
theorem dX10_set_127 : decode cX10_set 127 = .ok (.invokevirtual 81, 3) := by decide +kernel
theorem dX10_set_130 : decode cX10_set 130 = .ok (.ireturn, 1) := by decide +kernel
theorem dX10_turn_0 : decode cX10_turn 0 = .ok (.aload_n 0, 1) := by decide +kernel
theorem dX10_turn_1 : decode cX10_turn 1 = .ok (.iload_n 1, 1) := by decide +kernel
theorem dX10_turn_2 : decode cX10_turn 2 = .ok (.invokevirtual 103, 3) := by decide +kernel
theorem dX10_turn_5 : decode cX10_turn 5 = .ok (.ifCond .ne 10, 3) := by decide +kernel
theorem dX10_turn_8 : decode cX10_turn 8 = .ok (.aload_n 0, 1) := by decide +kernel
theorem dX10_turn_9 : decode cX10_turn 9 = .ok (.ldc 80, 2) := by decide +kernel
theorem dX10_turn_11 : decode cX10_turn 11 = .ok (.invokevirtual 81, 3) := by decide +kernel
theorem dX10_turn_14 : decode cX10_turn 14 = .ok (.ireturn, 1) := by decide +kernel
theorem dX10_turn_15 : decode cX10_turn 15 = .ok (.aload_n 0, 1) := by decide +kernel
theorem dX10_turn_16 : decode cX10_turn 16 = .ok (.aload_n 0, 1) := by decide +kernel
theorem dX10_turn_17 : decode cX10_turn 17 = .ok (.getfield 30, 3) := by decide +kernel
theorem dX10_turn_20 : decode cX10_turn 20 = .ok (.getfield 106, 3) := by decide +kernel
theorem dX10_turn_23 : decode cX10_turn 23 = .ok (.iload_n 1, 1) := by decide +kernel
theorem dX10_turn_24 : decode cX10_turn 24 = .ok (.iload_n 2, 1) := by decide +kernel
theorem dX10_turn_25 : decode cX10_turn 25 = .ok (.iconst 0, 1) := by decide +kernel
theorem dX10_turn_26 : decode cX10_turn 26 = .ok (.iconst 5, 1) := by decide +kernel
theorem dX10_turn_27 : decode cX10_turn 27 = .ok (.invokevirtual 133, 3) := by decide +kernel
theorem dX10_turn_30 : decode cX10_turn 30 = .ok (.ireturn, 1) := by decide +kernel
theorem dX10_as_0 : decode cX10_as 0 = .ok (.aload_n 0, 1) := by decide +kernel
theorem dX10_as_1 : decode cX10_as 1 = .ok (.iload_n 1, 1) := by decide +kernel
theorem dX10_as_2 : decode cX10_as 2 = .ok (.invokevirtual 103, 3) := by decide +kernel
theorem dX10_as_5 : decode cX10_as 5 = .ok (.ifCond .eq 10, 3) := by decide +kernel
theorem dX10_as_8 : decode cX10_as 8 = .ok (.iload_n 2, 1) := by decide +kernel
theorem dX10_as_9 : decode cX10_as 9 = .ok (.invokestatic 96, 3) := by decide +kernel
theorem dX10_as_12 : decode cX10_as 12 = .ok (.ifCond .ne 10, 3) := by decide +kernel
theorem dX10_as_15 : decode cX10_as 15 = .ok (.aload_n 0, 1) := by decide +kernel
theorem dX10_as_16 : decode cX10_as 16 = .ok (.ldc 80, 2) := by decide +kernel
theorem dX10_as_18 : decode cX10_as 18 = .ok (.invokevirtual 81, 3) := by decide +kernel
theorem dX10_as_21 : decode cX10_as 21 = .ok (.ireturn, 1) := by decide +kernel
theorem dX10_as_22 : decode cX10_as 22 = .ok (.aload_n 0, 1) := by decide +kernel
theorem dX10_as_23 : decode cX10_as 23 = .ok (.getfield 30, 3) := by decide +kernel
theorem dX10_as_26 : decode cX10_as 26 = .ok (.getfield 106, 3) := by decide +kernel
theorem dX10_as_29 : decode cX10_as 29 = .ok (.iload_n 1, 1) := by decide +kernel
theorem dX10_as_30 : decode cX10_as 30 = .ok (.iaload, 1) := by decide +kernel
theorem dX10_as_31 : decode cX10_as 31 = .ok (.iload_n 2, 1) := by decide +kernel
theorem dX10_as_32 : decode cX10_as 32 = .ok (.invokestatic 138, 3) := by decide +kernel
theorem dX10_as_35 : decode cX10_as 35 = .ok (.ifCond .ne 10, 3) := by decide +kernel
theorem dX10_as_38 : decode cX10_as 38 = .ok (.aload_n 0, 1) := by decide +kernel
theorem dX10_as_39 : decode cX10_as 39 = .ok (.ldc 141, 2) := by decide +kernel
theorem dX10_as_41 : decode cX10_as 41 = .ok (.invokevirtual 81, 3) := by decide +kernel
theorem dX10_as_44 : decode cX10_as 44 = .ok (.ireturn, 1) := by decide +kernel
theorem dX10_as_45 : decode cX10_as 45 = .ok (.aload_n 0, 1) := by decide +kernel
theorem dX10_as_46 : decode cX10_as 46 = .ok (.getfield 30, 3) := by decide +kernel
theorem dX10_as_49 : decode cX10_as 49 = .ok (.getfield 109, 3) := by decide +kernel
theorem dX10_as_52 : decode cX10_as 52 = .ok (.iload_n 1, 1) := by decide +kernel
theorem dX10_as_53 : decode cX10_as 53 = .ok (.iaload, 1) := by decide +kernel
theorem dX10_as_54 : decode cX10_as 54 = .ok (.ireturn, 1) := by decide +kernel
theorem dX10_give_0 : decode cX10_give 0 = .ok (.aload_n 0, 1) := by decide +kernel
theorem dX10_give_1 : decode cX10_give 1 = .ok (.iload_n 1, 1) := by decide +kernel
theorem dX10_give_2 : decode cX10_give 2 = .ok (.invokevirtual 103, 3) := by decide +kernel
theorem dX10_give_5 : decode cX10_give 5 = .ok (.ifCond .eq 10, 3) := by decide +kernel
theorem dX10_give_8 : decode cX10_give 8 = .ok (.iload_n 2, 1) := by decide +kernel
theorem dX10_give_9 : decode cX10_give 9 = .ok (.invokestatic 73, 3) := by decide +kernel
theorem dX10_give_12 : decode cX10_give 12 = .ok (.ifCond .ne 10, 3) := by decide +kernel
theorem dX10_give_15 : decode cX10_give 15 = .ok (.aload_n 0, 1) := by decide +kernel
theorem dX10_give_16 : decode cX10_give 16 = .ok (.ldc 80, 2) := by decide +kernel
theorem dX10_give_18 : decode cX10_give 18 = .ok (.invokevirtual 81, 3) := by decide +kernel
theorem dX10_give_21 : decode cX10_give 21 = .ok (.ireturn, 1) := by decide +kernel
theorem dX10_give_22 : decode cX10_give 22 = .ok (.aload_n 0, 1) := by decide +kernel
theorem dX10_give_23 : decode cX10_give 23 = .ok (.getfield 30, 3) := by decide +kernel
theorem dX10_give_26 : decode cX10_give 26 = .ok (.iload_n 1, 1) := by decide +kernel
theorem dX10_give_27 : decode cX10_give 27 = .ok (.iload_n 2, 1) := by decide +kernel
theorem dX10_give_28 : decode cX10_give 28 = .ok (.invokevirtual 92, 3) := by decide +kernel
theorem dX10_give_31 : decode cX10_give 31 = .ok (.ifCond .eq 5, 3) := by decide +kernel
theorem dX10_give_34 : decode cX10_give 34 = .ok (.iconst 0, 1) := by decide +kernel
theorem dX10_give_35 : decode cX10_give 35 = .ok (.ireturn, 1) := by decide +kernel
theorem dX10_give_36 : decode cX10_give 36 = .ok (.aload_n 0, 1) := by decide +kernel
theorem dX10_give_37 : decode cX10_give 37 = .ok (.getfield 30, 3) := by decide +kernel
theorem dX10_give_40 : decode cX10_give 40 = .ok (.getfield 112, 3) := by decide +kernel
theorem dX10_give_43 : decode cX10_give 43 = .ok (.iload_n 1, 1) := by decide +kernel
theorem dX10_give_44 : decode cX10_give 44 = .ok (.dup2, 1) := by decide +kernel
theorem dX10_give_45 : decode cX10_give 45 = .ok (.iaload, 1) := by decide +kernel
theorem dX10_give_46 : decode cX10_give 46 = .ok (.iload_n 2, 1) := by decide +kernel
theorem dX10_give_47 : decode cX10_give 47 = .ok (.invokestatic 142, 3) := by decide +kernel
theorem dX10_give_50 : decode cX10_give 50 = .ok (.ior, 1) := by decide +kernel
theorem dX10_give_51 : decode cX10_give 51 = .ok (.iastore, 1) := by decide +kernel
theorem dX10_give_52 : decode cX10_give 52 = .ok (.iconst 1, 1) := by decide +kernel
theorem dX10_give_53 : decode cX10_give 53 = .ok (.ireturn, 1) := by decide +kernel
theorem dX10_hand_0 : decode cX10_hand 0 = .ok (.aload_n 0, 1) := by decide +kernel
theorem dX10_hand_1 : decode cX10_hand 1 = .ok (.iload_n 1, 1) := by decide +kernel
theorem dX10_hand_2 : decode cX10_hand 2 = .ok (.invokevirtual 103, 3) := by decide +kernel
theorem dX10_hand_5 : decode cX10_hand 5 = .ok (.ifCond .eq 23, 3) := by decide +kernel
theorem dX10_hand_8 : decode cX10_hand 8 = .ok (.aload_n 0, 1) := by decide +kernel
theorem dX10_hand_9 : decode cX10_hand 9 = .ok (.iload_n 2, 1) := by decide +kernel
theorem dX10_hand_10 : decode cX10_hand 10 = .ok (.invokevirtual 103, 3) := by decide +kernel
theorem dX10_hand_13 : decode cX10_hand 13 = .ok (.ifCond .eq 15, 3) := by decide +kernel
theorem dX10_hand_16 : decode cX10_hand 16 = .ok (.iload_n 1, 1) := by decide +kernel
theorem dX10_hand_17 : decode cX10_hand 17 = .ok (.iload_n 2, 1) := by decide +kernel
theorem dX10_hand_18 : decode cX10_hand 18 = .ok (.if_icmp .eq 10, 3) := by decide +kernel
theorem dX10_hand_21 : decode cX10_hand 21 = .ok (.iload_n 3, 1) := by decide +kernel
theorem dX10_hand_22 : decode cX10_hand 22 = .ok (.invokestatic 73, 3) := by decide +kernel
theorem dX10_hand_25 : decode cX10_hand 25 = .ok (.ifCond .ne 10, 3) := by decide +kernel
theorem dX10_hand_28 : decode cX10_hand 28 = .ok (.aload_n 0, 1) := by decide +kernel
theorem dX10_hand_29 : decode cX10_hand 29 = .ok (.ldc 80, 2) := by decide +kernel
theorem dX10_hand_31 : decode cX10_hand 31 = .ok (.invokevirtual 81, 3) := by decide +kernel
theorem dX10_hand_34 : decode cX10_hand 34 = .ok (.ireturn, 1) := by decide +kernel
theorem dX10_hand_35 : decode cX10_hand 35 = .ok (.aload_n 0, 1) := by decide +kernel
theorem dX10_hand_36 : decode cX10_hand 36 = .ok (.getfield 30, 3) := by decide +kernel
theorem dX10_hand_39 : decode cX10_hand 39 = .ok (.iload_n 1, 1) := by decide +kernel
theorem dX10_hand_40 : decode cX10_hand 40 = .ok (.iload_n 3, 1) := by decide +kernel
theorem dX10_hand_41 : decode cX10_hand 41 = .ok (.invokevirtual 92, 3) := by decide +kernel
theorem dX10_hand_44 : decode cX10_hand 44 = .ok (.ifCond .ne 10, 3) := by decide +kernel
theorem dX10_hand_47 : decode cX10_hand 47 = .ok (.aload_n 0, 1) := by decide +kernel
theorem dX10_hand_48 : decode cX10_hand 48 = .ok (.ldc 145, 2) := by decide +kernel
theorem dX10_hand_50 : decode cX10_hand 50 = .ok (.invokevirtual 81, 3) := by decide +kernel
theorem dX10_hand_53 : decode cX10_hand 53 = .ok (.ireturn, 1) := by decide +kernel
theorem dX10_hand_54 : decode cX10_hand 54 = .ok (.aload_n 0, 1) := by decide +kernel
theorem dX10_hand_55 : decode cX10_hand 55 = .ok (.getfield 30, 3) := by decide +kernel
theorem dX10_hand_58 : decode cX10_hand 58 = .ok (.getfield 112, 3) := by decide +kernel
theorem dX10_hand_61 : decode cX10_hand 61 = .ok (.iload_n 1, 1) := by decide +kernel
theorem dX10_hand_62 : decode cX10_hand 62 = .ok (.dup2, 1) := by decide +kernel
theorem dX10_hand_63 : decode cX10_hand 63 = .ok (.iaload, 1) := by decide +kernel
theorem dX10_hand_64 : decode cX10_hand 64 = .ok (.iload_n 3, 1) := by decide +kernel
theorem dX10_hand_65 : decode cX10_hand 65 = .ok (.invokestatic 142, 3) := by decide +kernel
theorem dX10_hand_68 : decode cX10_hand 68 = .ok (.iconst (-1), 1) := by decide +kernel
theorem dX10_hand_69 : decode cX10_hand 69 = .ok (.ixor, 1) := by decide +kernel
theorem dX10_hand_70 : decode cX10_hand 70 = .ok (.iand, 1) := by decide +kernel
theorem dX10_hand_71 : decode cX10_hand 71 = .ok (.iastore, 1) := by decide +kernel
theorem dX10_hand_72 : decode cX10_hand 72 = .ok (.aload_n 0, 1) := by decide +kernel
theorem dX10_hand_73 : decode cX10_hand 73 = .ok (.getfield 30, 3) := by decide +kernel
theorem dX10_hand_76 : decode cX10_hand 76 = .ok (.getfield 112, 3) := by decide +kernel
theorem dX10_hand_79 : decode cX10_hand 79 = .ok (.iload_n 2, 1) := by decide +kernel
theorem dX10_hand_80 : decode cX10_hand 80 = .ok (.dup2, 1) := by decide +kernel
theorem dX10_hand_81 : decode cX10_hand 81 = .ok (.iaload, 1) := by decide +kernel
theorem dX10_hand_82 : decode cX10_hand 82 = .ok (.iload_n 3, 1) := by decide +kernel
theorem dX10_hand_83 : decode cX10_hand 83 = .ok (.invokestatic 142, 3) := by decide +kernel
theorem dX10_hand_86 : decode cX10_hand 86 = .ok (.ior, 1) := by decide +kernel
theorem dX10_hand_87 : decode cX10_hand 87 = .ok (.iastore, 1) := by decide +kernel
theorem dX10_hand_88 : decode cX10_hand 88 = .ok (.iconst 1, 1) := by decide +kernel
theorem dX10_hand_89 : decode cX10_hand 89 = .ok (.ireturn, 1) := by decide +kernel
theorem dX10_border_0 : decode cX10_border 0 = .ok (.aload_n 0, 1) := by decide +kernel
theorem dX10_border_1 : decode cX10_border 1 = .ok (.iload_n 1, 1) := by decide +kernel
theorem dX10_border_2 : decode cX10_border 2 = .ok (.invokevirtual 103, 3) := by decide +kernel
theorem dX10_border_5 : decode cX10_border 5 = .ok (.ifCond .ne 10, 3) := by decide +kernel
theorem dX10_border_8 : decode cX10_border 8 = .ok (.aload_n 0, 1) := by decide +kernel
theorem dX10_border_9 : decode cX10_border 9 = .ok (.ldc 80, 2) := by decide +kernel
theorem dX10_border_11 : decode cX10_border 11 = .ok (.invokevirtual 81, 3) := by decide +kernel
theorem dX10_border_14 : decode cX10_border 14 = .ok (.ireturn, 1) := by decide +kernel
theorem dX10_border_15 : decode cX10_border 15 = .ok (.aload_n 0, 1) := by decide +kernel
theorem dX10_border_16 : decode cX10_border 16 = .ok (.getfield 30, 3) := by decide +kernel
theorem dX10_border_19 : decode cX10_border 19 = .ok (.iload_n 1, 1) := by decide +kernel
theorem dX10_border_20 : decode cX10_border 20 = .ok (.invokevirtual 146, 3) := by decide +kernel
theorem dX10_border_23 : decode cX10_border 23 = .ok (.ireturn, 1) := by decide +kernel
theorem dX10_years_0 : decode cX10_years 0 = .ok (.iload_n 1, 1) := by decide +kernel
theorem dX10_years_1 : decode cX10_years 1 = .ok (.iconst 1, 1) := by decide +kernel
theorem dX10_years_2 : decode cX10_years 2 = .ok (.bipush 80, 2) := by decide +kernel
theorem dX10_years_4 : decode cX10_years 4 = .ok (.invokestatic 149, 3) := by decide +kernel
theorem dX10_years_7 : decode cX10_years 7 = .ok (.ifCond .ne 10, 3) := by decide +kernel
theorem dX10_years_10 : decode cX10_years 10 = .ok (.aload_n 0, 1) := by decide +kernel
theorem dX10_years_11 : decode cX10_years 11 = .ok (.ldc 80, 2) := by decide +kernel
theorem dX10_years_13 : decode cX10_years 13 = .ok (.invokevirtual 81, 3) := by decide +kernel
theorem dX10_years_16 : decode cX10_years 16 = .ok (.ireturn, 1) := by decide +kernel
theorem dX10_years_17 : decode cX10_years 17 = .ok (.aload_n 0, 1) := by decide +kernel
theorem dX10_years_18 : decode cX10_years 18 = .ok (.getfield 30, 3) := by decide +kernel
theorem dX10_years_21 : decode cX10_years 21 = .ok (.getfield 153, 3) := by decide +kernel
theorem dX10_years_24 : decode cX10_years 24 = .ok (.iload_n 1, 1) := by decide +kernel
theorem dX10_years_25 : decode cX10_years 25 = .ok (.iadd, 1) := by decide +kernel
theorem dX10_years_26 : decode cX10_years 26 = .ok (.sipush 9999, 3) := by decide +kernel
theorem dX10_years_29 : decode cX10_years 29 = .ok (.if_icmp .le 10, 3) := by decide +kernel
theorem dX10_years_32 : decode cX10_years 32 = .ok (.aload_n 0, 1) := by decide +kernel
theorem dX10_years_33 : decode cX10_years 33 = .ok (.ldc 145, 2) := by decide +kernel
theorem dX10_years_35 : decode cX10_years 35 = .ok (.invokevirtual 81, 3) := by decide +kernel
theorem dX10_years_38 : decode cX10_years 38 = .ok (.ireturn, 1) := by decide +kernel
theorem dX10_years_39 : decode cX10_years 39 = .ok (.aload_n 0, 1) := by decide +kernel
theorem dX10_years_40 : decode cX10_years 40 = .ok (.getfield 30, 3) := by decide +kernel
theorem dX10_years_43 : decode cX10_years 43 = .ok (.iload_n 1, 1) := by decide +kernel
theorem dX10_years_44 : decode cX10_years 44 = .ok (.invokevirtual 156, 3) := by decide +kernel
theorem dX10_years_47 : decode cX10_years 47 = .ok (.aload_n 0, 1) := by decide +kernel
theorem dX10_years_48 : decode cX10_years 48 = .ok (.getfield 30, 3) := by decide +kernel
theorem dX10_years_51 : decode cX10_years 51 = .ok (.invokevirtual 160, 3) := by decide +kernel
theorem dX10_years_54 : decode cX10_years 54 = .ok (.ireturn, 1) := by decide +kernel
theorem dX10_now_0 : decode cX10_now 0 = .ok (.iload_n 1, 1) := by decide +kernel
theorem dX10_now_1 : decode cX10_now 1 = .ok (.tableswitch 87 0 5 #[39, 47, 55, 63, 71, 79], 39) := by decide +kernel
theorem dX10_now_40 : decode cX10_now 40 = .ok (.aload_n 0, 1) := by decide +kernel
theorem dX10_now_41 : decode cX10_now 41 = .ok (.getfield 30, 3) := by decide +kernel
theorem dX10_now_44 : decode cX10_now 44 = .ok (.getfield 153, 3) := by decide +kernel
theorem dX10_now_47 : decode cX10_now 47 = .ok (.ireturn, 1) := by decide +kernel
theorem dX10_now_48 : decode cX10_now 48 = .ok (.aload_n 0, 1) := by decide +kernel
theorem dX10_now_49 : decode cX10_now 49 = .ok (.getfield 30, 3) := by decide +kernel
theorem dX10_now_52 : decode cX10_now 52 = .ok (.getfield 164, 3) := by decide +kernel
theorem dX10_now_55 : decode cX10_now 55 = .ok (.ireturn, 1) := by decide +kernel
theorem dX10_now_56 : decode cX10_now 56 = .ok (.aload_n 0, 1) := by decide +kernel
theorem dX10_now_57 : decode cX10_now 57 = .ok (.getfield 30, 3) := by decide +kernel
theorem dX10_now_60 : decode cX10_now 60 = .ok (.invokevirtual 167, 3) := by decide +kernel
theorem dX10_now_63 : decode cX10_now 63 = .ok (.ireturn, 1) := by decide +kernel
theorem dX10_now_64 : decode cX10_now 64 = .ok (.aload_n 0, 1) := by decide +kernel
theorem dX10_now_65 : decode cX10_now 65 = .ok (.getfield 30, 3) := by decide +kernel
theorem dX10_now_68 : decode cX10_now 68 = .ok (.invokevirtual 170, 3) := by decide +kernel
theorem dX10_now_71 : decode cX10_now 71 = .ok (.ireturn, 1) := by decide +kernel
theorem dX10_now_72 : decode cX10_now 72 = .ok (.aload_n 0, 1) := by decide +kernel
theorem dX10_now_73 : decode cX10_now 73 = .ok (.getfield 30, 3) := by decide +kernel
theorem dX10_now_76 : decode cX10_now 76 = .ok (.invokevirtual 173, 3) := by decide +kernel
theorem dX10_now_79 : decode cX10_now 79 = .ok (.ireturn, 1) := by decide +kernel
theorem dX10_now_80 : decode cX10_now 80 = .ok (.aload_n 0, 1) := by decide +kernel
theorem dX10_now_81 : decode cX10_now 81 = .ok (.getfield 30, 3) := by decide +kernel
theorem dX10_now_84 : decode cX10_now 84 = .ok (.invokevirtual 160, 3) := by decide +kernel
theorem dX10_now_87 : decode cX10_now 87 = .ok (.ireturn, 1) := by decide +kernel
theorem dX10_now_88 : decode cX10_now 88 = .ok (.aload_n 0, 1) := by decide +kernel
theorem dX10_now_89 : decode cX10_now 89 = .ok (.ldc 80, 2) := by decide +kernel
theorem dX10_now_91 : decode cX10_now 91 = .ok (.invokevirtual 81, 3) := by decide +kernel
theorem dX10_now_94 : decode cX10_now 94 = .ok (.ireturn, 1) := by decide +kernel
theorem dX10_on_0 : decode cX10_on 0 = .ok (.aload_n 0, 1) := by decide +kernel
theorem dX10_on_1 : decode cX10_on 1 = .ok (.iload_n 1, 1) := by decide +kernel
theorem dX10_on_2 : decode cX10_on 2 = .ok (.invokevirtual 103, 3) := by decide +kernel
theorem dX10_on_5 : decode cX10_on 5 = .ok (.ifCond .eq 22, 3) := by decide +kernel
theorem dX10_on_8 : decode cX10_on 8 = .ok (.iload_n 2, 1) := by decide +kernel
theorem dX10_on_9 : decode cX10_on 9 = .ok (.iconst 0, 1) := by decide +kernel
theorem dX10_on_10 : decode cX10_on 10 = .ok (.bipush 80, 2) := by decide +kernel
theorem dX10_on_12 : decode cX10_on 12 = .ok (.invokestatic 149, 3) := by decide +kernel
theorem dX10_on_15 : decode cX10_on 15 = .ok (.ifCond .eq 12, 3) := by decide +kernel
theorem dX10_on_18 : decode cX10_on 18 = .ok (.iload_n 3, 1) := by decide +kernel
theorem dX10_on_19 : decode cX10_on 19 = .ok (.iconst 0, 1) := by decide +kernel
theorem dX10_on_20 : decode cX10_on 20 = .ok (.iconst 1, 1) := by decide +kernel
theorem dX10_on_21 : decode cX10_on 21 = .ok (.invokestatic 149, 3) := by decide +kernel
theorem dX10_on_24 : decode cX10_on 24 = .ok (.ifCond .ne 10, 3) := by decide +kernel
theorem dX10_on_27 : decode cX10_on 27 = .ok (.aload_n 0, 1) := by decide +kernel
theorem dX10_on_28 : decode cX10_on 28 = .ok (.ldc 80, 2) := by decide +kernel
theorem dX10_on_30 : decode cX10_on 30 = .ok (.invokevirtual 81, 3) := by decide +kernel
theorem dX10_on_33 : decode cX10_on 33 = .ok (.ireturn, 1) := by decide +kernel
theorem dX10_on_34 : decode cX10_on 34 = .ok (.aload_n 0, 1) := by decide +kernel
theorem dX10_on_35 : decode cX10_on 35 = .ok (.getfield 36, 3) := by decide +kernel
theorem dX10_on_38 : decode cX10_on 38 = .ok (.aload_n 0, 1) := by decide +kernel
theorem dX10_on_39 : decode cX10_on 39 = .ok (.getfield 30, 3) := by decide +kernel
theorem dX10_on_42 : decode cX10_on 42 = .ok (.invokevirtual 176, 3) := by decide +kernel
theorem dX10_on_45 : decode cX10_on 45 = .ok (.aload_n 0, 1) := by decide +kernel
theorem dX10_on_46 : decode cX10_on 46 = .ok (.getfield 36, 3) := by decide +kernel
theorem dX10_on_49 : decode cX10_on 49 = .ok (.iload_n 2, 1) := by decide +kernel
theorem dX10_on_50 : decode cX10_on 50 = .ok (.invokevirtual 156, 3) := by decide +kernel
theorem dX10_on_53 : decode cX10_on 53 = .ok (.iload_n 3, 1) := by decide +kernel
theorem dX10_on_54 : decode cX10_on 54 = .ok (.ifCond .ne 15, 3) := by decide +kernel
theorem dX10_on_57 : decode cX10_on 57 = .ok (.aload_n 0, 1) := by decide +kernel
theorem dX10_on_58 : decode cX10_on 58 = .ok (.getfield 36, 3) := by decide +kernel
theorem dX10_on_61 : decode cX10_on 61 = .ok (.getfield 112, 3) := by decide +kernel
theorem dX10_on_64 : decode cX10_on 64 = .ok (.iload_n 1, 1) := by decide +kernel
theorem dX10_on_65 : decode cX10_on 65 = .ok (.iaload, 1) := by decide +kernel
theorem dX10_on_66 : decode cX10_on 66 = .ok (.goto 12, 3) := by decide +kernel
theorem dX10_on_69 : decode cX10_on 69 = .ok (.aload_n 0, 1) := by decide +kernel
theorem dX10_on_70 : decode cX10_on 70 = .ok (.getfield 36, 3) := by decide +kernel
theorem dX10_on_73 : decode cX10_on 73 = .ok (.getfield 118, 3) := by decide +kernel
theorem dX10_on_76 : decode cX10_on 76 = .ok (.iload_n 1, 1) := by decide +kernel
theorem dX10_on_77 : decode cX10_on 77 = .ok (.iaload, 1) := by decide +kernel
theorem dX10_on_78 : decode cX10_on 78 = .ok (.ireturn, 1) := by decide +kernel
theorem dX10_gets_0 : decode cX10_gets 0 = .ok (.aload_n 0, 1) := by decide +kernel
theorem dX10_gets_1 : decode cX10_gets 1 = .ok (.iload_n 1, 1) := by decide +kernel
theorem dX10_gets_2 : decode cX10_gets 2 = .ok (.invokevirtual 103, 3) := by decide +kernel
theorem dX10_gets_5 : decode cX10_gets 5 = .ok (.ifCond .eq 10, 3) := by decide +kernel
theorem dX10_gets_8 : decode cX10_gets 8 = .ok (.iload_n 2, 1) := by decide +kernel
theorem dX10_gets_9 : decode cX10_gets 9 = .ok (.invokestatic 73, 3) := by decide +kernel
theorem dX10_gets_12 : decode cX10_gets 12 = .ok (.ifCond .ne 10, 3) := by decide +kernel
theorem dX10_gets_15 : decode cX10_gets 15 = .ok (.aload_n 0, 1) := by decide +kernel
theorem dX10_gets_16 : decode cX10_gets 16 = .ok (.ldc 80, 2) := by decide +kernel
theorem dX10_gets_18 : decode cX10_gets 18 = .ok (.invokevirtual 81, 3) := by decide +kernel
theorem dX10_gets_21 : decode cX10_gets 21 = .ok (.ireturn, 1) := by decide +kernel
theorem dX10_gets_22 : decode cX10_gets 22 = .ok (.aload_n 0, 1) := by decide +kernel
theorem dX10_gets_23 : decode cX10_gets 23 = .ok (.iload_n 1, 1) := by decide +kernel
theorem dX10_gets_24 : decode cX10_gets 24 = .ok (.iload_n 2, 1) := by decide +kernel
theorem dX10_gets_25 : decode cX10_gets 25 = .ok (.iconst 1, 1) := by decide +kernel
theorem dX10_gets_26 : decode cX10_gets 26 = .ok (.invokevirtual 180, 3) := by decide +kernel
theorem dX10_gets_29 : decode cX10_gets 29 = .ok (.ireturn, 1) := by decide +kernel
theorem dX10_loses_0 : decode cX10_loses 0 = .ok (.aload_n 0, 1) := by decide +kernel
theorem dX10_loses_1 : decode cX10_loses 1 = .ok (.iload_n 1, 1) := by decide +kernel
theorem dX10_loses_2 : decode cX10_loses 2 = .ok (.invokevirtual 103, 3) := by decide +kernel
theorem dX10_loses_5 : decode cX10_loses 5 = .ok (.ifCond .eq 10, 3) := by decide +kernel
theorem dX10_loses_8 : decode cX10_loses 8 = .ok (.iload_n 2, 1) := by decide +kernel
theorem dX10_loses_9 : decode cX10_loses 9 = .ok (.invokestatic 73, 3) := by decide +kernel
theorem dX10_loses_12 : decode cX10_loses 12 = .ok (.ifCond .ne 10, 3) := by decide +kernel
theorem dX10_loses_15 : decode cX10_loses 15 = .ok (.aload_n 0, 1) := by decide +kernel
theorem dX10_loses_16 : decode cX10_loses 16 = .ok (.ldc 80, 2) := by decide +kernel
theorem dX10_loses_18 : decode cX10_loses 18 = .ok (.invokevirtual 81, 3) := by decide +kernel
theorem dX10_loses_21 : decode cX10_loses 21 = .ok (.ireturn, 1) := by decide +kernel
theorem dX10_loses_22 : decode cX10_loses 22 = .ok (.aload_n 0, 1) := by decide +kernel
theorem dX10_loses_23 : decode cX10_loses 23 = .ok (.iload_n 1, 1) := by decide +kernel
theorem dX10_loses_24 : decode cX10_loses 24 = .ok (.iload_n 2, 1) := by decide +kernel
theorem dX10_loses_25 : decode cX10_loses 25 = .ok (.iconst 0, 1) := by decide +kernel
theorem dX10_loses_26 : decode cX10_loses 26 = .ok (.invokevirtual 180, 3) := by decide +kernel
theorem dX10_loses_29 : decode cX10_loses 29 = .ok (.ireturn, 1) := by decide +kernel
theorem dX10_burns_0 : decode cX10_burns 0 = .ok (.iload_n 1, 1) := by decide +kernel
theorem dX10_burns_1 : decode cX10_burns 1 = .ok (.invokestatic 73, 3) := by decide +kernel
theorem dX10_burns_4 : decode cX10_burns 4 = .ok (.ifCond .ne 10, 3) := by decide +kernel
theorem dX10_burns_7 : decode cX10_burns 7 = .ok (.aload_n 0, 1) := by decide +kernel
theorem dX10_burns_8 : decode cX10_burns 8 = .ok (.ldc 80, 2) := by decide +kernel
theorem dX10_burns_10 : decode cX10_burns 10 = .ok (.invokevirtual 81, 3) := by decide +kernel
theorem dX10_burns_13 : decode cX10_burns 13 = .ok (.ireturn, 1) := by decide +kernel
theorem dX10_burns_14 : decode cX10_burns 14 = .ok (.aload_n 0, 1) := by decide +kernel
theorem dX10_burns_15 : decode cX10_burns 15 = .ok (.getfield 36, 3) := by decide +kernel
theorem dX10_burns_18 : decode cX10_burns 18 = .ok (.aload_n 0, 1) := by decide +kernel
theorem dX10_burns_19 : decode cX10_burns 19 = .ok (.getfield 30, 3) := by decide +kernel
theorem dX10_burns_22 : decode cX10_burns 22 = .ok (.invokevirtual 176, 3) := by decide +kernel
theorem dX10_burns_25 : decode cX10_burns 25 = .ok (.iconst 0, 1) := by decide +kernel
theorem dX10_burns_26 : decode cX10_burns 26 = .ok (.istore_n 2, 1) := by decide +kernel
theorem dX10_burns_27 : decode cX10_burns 27 = .ok (.iload_n 2, 1) := by decide +kernel
theorem dX10_burns_28 : decode cX10_burns 28 = .ok (.bipush 80, 2) := by decide +kernel
theorem dX10_burns_30 : decode cX10_burns 30 = .ok (.if_icmp .gt 33, 3) := by decide +kernel
theorem dX10_burns_33 : decode cX10_burns 33 = .ok (.aload_n 0, 1) := by decide +kernel
theorem dX10_burns_34 : decode cX10_burns 34 = .ok (.getfield 36, 3) := by decide +kernel
theorem dX10_burns_37 : decode cX10_burns 37 = .ok (.getfield 164, 3) := by decide +kernel
theorem dX10_burns_40 : decode cX10_burns 40 = .ok (.iload_n 1, 1) := by decide +kernel
theorem dX10_burns_41 : decode cX10_burns 41 = .ok (.invokestatic 184, 3) := by decide +kernel
theorem dX10_burns_44 : decode cX10_burns 44 = .ok (.ifCond .eq 5, 3) := by decide +kernel
theorem dX10_burns_47 : decode cX10_burns 47 = .ok (.iload_n 2, 1) := by decide +kernel
theorem dX10_burns_48 : decode cX10_burns 48 = .ok (.ireturn, 1) := by decide +kernel
theorem dX10_burns_49 : decode cX10_burns 49 = .ok (.aload_n 0, 1) := by decide +kernel
theorem dX10_burns_50 : decode cX10_burns 50 = .ok (.getfield 36, 3) := by decide +kernel
theorem dX10_burns_53 : decode cX10_burns 53 = .ok (.iconst 1, 1) := by decide +kernel
theorem dX10_burns_54 : decode cX10_burns 54 = .ok (.invokevirtual 156, 3) := by decide +kernel
theorem dX10_burns_57 : decode cX10_burns 57 = .ok (.iinc 2 1, 3) := by decide +kernel
theorem dX10_burns_60 : decode cX10_burns 60 = .ok (.goto (-33), 3) := by decide +kernel
theorem dX10_burns_63 : decode cX10_burns 63 = .ok (.aload_n 0, 1) := by decide +kernel
theorem dX10_burns_64 : decode cX10_burns 64 = .ok (.ldc 187, 2) := by decide +kernel
theorem dX10_burns_66 : decode cX10_burns 66 = .ok (.invokevirtual 81, 3) := by decide +kernel
theorem dX10_burns_69 : decode cX10_burns 69 = .ok (.ireturn, 1) := by decide +kernel
theorem dX10_cousin_0 : decode cX10_cousin 0 = .ok (.aload_n 0, 1) := by decide +kernel
theorem dX10_cousin_1 : decode cX10_cousin 1 = .ok (.iload_n 1, 1) := by decide +kernel
theorem dX10_cousin_2 : decode cX10_cousin 2 = .ok (.invokevirtual 103, 3) := by decide +kernel
theorem dX10_cousin_5 : decode cX10_cousin 5 = .ok (.ifCond .eq 13, 3) := by decide +kernel
theorem dX10_cousin_8 : decode cX10_cousin 8 = .ok (.iload_n 2, 1) := by decide +kernel
theorem dX10_cousin_9 : decode cX10_cousin 9 = .ok (.iconst 1, 1) := by decide +kernel
theorem dX10_cousin_10 : decode cX10_cousin 10 = .ok (.bipush 80, 2) := by decide +kernel
theorem dX10_cousin_12 : decode cX10_cousin 12 = .ok (.invokestatic 149, 3) := by decide +kernel
theorem dX10_cousin_15 : decode cX10_cousin 15 = .ok (.ifCond .ne 10, 3) := by decide +kernel
theorem dX10_cousin_18 : decode cX10_cousin 18 = .ok (.aload_n 0, 1) := by decide +kernel
theorem dX10_cousin_19 : decode cX10_cousin 19 = .ok (.ldc 80, 2) := by decide +kernel
theorem dX10_cousin_21 : decode cX10_cousin 21 = .ok (.invokevirtual 81, 3) := by decide +kernel
theorem dX10_cousin_24 : decode cX10_cousin 24 = .ok (.ireturn, 1) := by decide +kernel
theorem dX10_cousin_25 : decode cX10_cousin 25 = .ok (.iconst (-1), 1) := by decide +kernel
theorem dX10_cousin_26 : decode cX10_cousin 26 = .ok (.istore_n 3, 1) := by decide +kernel
theorem dX10_cousin_27 : decode cX10_cousin 27 = .ok (.iconst 0, 1) := by decide +kernel
theorem dX10_cousin_28 : decode cX10_cousin 28 = .ok (.istore 4, 2) := by decide +kernel
theorem dX10_cousin_30 : decode cX10_cousin 30 = .ok (.iconst (-1), 1) := by decide +kernel
theorem dX10_cousin_31 : decode cX10_cousin 31 = .ok (.istore 5, 2) := by decide +kernel
theorem dX10_cousin_33 : decode cX10_cousin 33 = .ok (.iload 5, 2) := by decide +kernel
theorem dX10_cousin_35 : decode cX10_cousin 35 = .ok (.aload_n 0, 1) := by decide +kernel
theorem dX10_cousin_36 : decode cX10_cousin 36 = .ok (.getfield 30, 3) := by decide +kernel
theorem dX10_cousin_39 : decode cX10_cousin 39 = .ok (.getfield 88, 3) := by decide +kernel
theorem dX10_cousin_42 : decode cX10_cousin 42 = .ok (.if_icmp .ge 64, 3) := by decide +kernel
theorem dX10_cousin_45 : decode cX10_cousin 45 = .ok (.aload_n 0, 1) := by decide +kernel
theorem dX10_cousin_46 : decode cX10_cousin 46 = .ok (.getfield 36, 3) := by decide +kernel
theorem dX10_cousin_49 : decode cX10_cousin 49 = .ok (.aload_n 0, 1) := by decide +kernel
theorem dX10_cousin_50 : decode cX10_cousin 50 = .ok (.getfield 30, 3) := by decide +kernel
theorem dX10_cousin_53 : decode cX10_cousin 53 = .ok (.invokevirtual 176, 3) := by decide +kernel
theorem dX10_cousin_56 : decode cX10_cousin 56 = .ok (.aload_n 0, 1) := by decide +kernel
theorem dX10_cousin_57 : decode cX10_cousin 57 = .ok (.getfield 36, 3) := by decide +kernel
theorem dX10_cousin_60 : decode cX10_cousin 60 = .ok (.getfield 115, 3) := by decide +kernel
theorem dX10_cousin_63 : decode cX10_cousin 63 = .ok (.iload_n 1, 1) := by decide +kernel
theorem dX10_cousin_64 : decode cX10_cousin 64 = .ok (.iload 5, 2) := by decide +kernel
theorem dX10_cousin_66 : decode cX10_cousin 66 = .ok (.iastore, 1) := by decide +kernel
theorem dX10_cousin_67 : decode cX10_cousin 67 = .ok (.aload_n 0, 1) := by decide +kernel
theorem dX10_cousin_68 : decode cX10_cousin 68 = .ok (.getfield 36, 3) := by decide +kernel
theorem dX10_cousin_71 : decode cX10_cousin 71 = .ok (.iload_n 2, 1) := by decide +kernel
theorem dX10_cousin_72 : decode cX10_cousin 72 = .ok (.invokevirtual 156, 3) := by decide +kernel
theorem dX10_cousin_75 : decode cX10_cousin 75 = .ok (.aload_n 0, 1) := by decide +kernel
theorem dX10_cousin_76 : decode cX10_cousin 76 = .ok (.getfield 36, 3) := by decide +kernel
theorem dX10_cousin_79 : decode cX10_cousin 79 = .ok (.iload_n 1, 1) := by decide +kernel
theorem dX10_cousin_80 : decode cX10_cousin 80 = .ok (.invokevirtual 130, 3) := by decide +kernel
theorem dX10_cousin_83 : decode cX10_cousin 83 = .ok (.istore 6, 2) := by decide +kernel
theorem dX10_cousin_85 : decode cX10_cousin 85 = .ok (.iload 6, 2) := by decide +kernel
theorem dX10_cousin_87 : decode cX10_cousin 87 = .ok (.iload_n 3, 1) := by decide +kernel
theorem dX10_cousin_88 : decode cX10_cousin 88 = .ok (.if_icmp .le 12, 3) := by decide +kernel
theorem dX10_cousin_91 : decode cX10_cousin 91 = .ok (.iload 6, 2) := by decide +kernel
theorem dX10_cousin_93 : decode cX10_cousin 93 = .ok (.istore_n 3, 1) := by decide +kernel
theorem dX10_cousin_94 : decode cX10_cousin 94 = .ok (.iconst 1, 1) := by decide +kernel
theorem dX10_cousin_95 : decode cX10_cousin 95 = .ok (.iload 5, 2) := by decide +kernel
theorem dX10_cousin_97 : decode cX10_cousin 97 = .ok (.iadd, 1) := by decide +kernel
theorem dX10_cousin_98 : decode cX10_cousin 98 = .ok (.istore 4, 2) := by decide +kernel
theorem dX10_cousin_100 : decode cX10_cousin 100 = .ok (.iinc 5 1, 3) := by decide +kernel
theorem dX10_cousin_103 : decode cX10_cousin 103 = .ok (.goto (-70), 3) := by decide +kernel
theorem dX10_cousin_106 : decode cX10_cousin 106 = .ok (.iload 4, 2) := by decide +kernel
theorem dX10_cousin_108 : decode cX10_cousin 108 = .ok (.ireturn, 1) := by decide +kernel
theorem dX10_kind_0 : decode cX10_kind 0 = .ok (.aload_n 0, 1) := by decide +kernel
theorem dX10_kind_1 : decode cX10_kind 1 = .ok (.iload_n 1, 1) := by decide +kernel
theorem dX10_kind_2 : decode cX10_kind 2 = .ok (.invokevirtual 103, 3) := by decide +kernel
theorem dX10_kind_5 : decode cX10_kind 5 = .ok (.ifCond .eq 13, 3) := by decide +kernel
theorem dX10_kind_8 : decode cX10_kind 8 = .ok (.iload_n 2, 1) := by decide +kernel
theorem dX10_kind_9 : decode cX10_kind 9 = .ok (.iconst 1, 1) := by decide +kernel
theorem dX10_kind_10 : decode cX10_kind 10 = .ok (.bipush 80, 2) := by decide +kernel
theorem dX10_kind_12 : decode cX10_kind 12 = .ok (.invokestatic 149, 3) := by decide +kernel
theorem dX10_kind_15 : decode cX10_kind 15 = .ok (.ifCond .ne 10, 3) := by decide +kernel
theorem dX10_kind_18 : decode cX10_kind 18 = .ok (.aload_n 0, 1) := by decide +kernel
theorem dX10_kind_19 : decode cX10_kind 19 = .ok (.ldc 80, 2) := by decide +kernel
theorem dX10_kind_21 : decode cX10_kind 21 = .ok (.invokevirtual 81, 3) := by decide +kernel
theorem dX10_kind_24 : decode cX10_kind 24 = .ok (.ireturn, 1) := by decide +kernel
theorem dX10_kind_25 : decode cX10_kind 25 = .ok (.iconst (-1), 1) := by decide +kernel
theorem dX10_kind_26 : decode cX10_kind 26 = .ok (.istore_n 3, 1) := by decide +kernel
theorem dX10_kind_27 : decode cX10_kind 27 = .ok (.iconst 0, 1) := by decide +kernel
theorem dX10_kind_28 : decode cX10_kind 28 = .ok (.istore 4, 2) := by decide +kernel
theorem dX10_kind_30 : decode cX10_kind 30 = .ok (.iconst 0, 1) := by decide +kernel
theorem dX10_kind_31 : decode cX10_kind 31 = .ok (.istore 5, 2) := by decide +kernel
theorem dX10_kind_33 : decode cX10_kind 33 = .ok (.iload 5, 2) := by decide +kernel
theorem dX10_kind_35 : decode cX10_kind 35 = .ok (.bipush 6, 2) := by decide +kernel
theorem dX10_kind_37 : decode cX10_kind 37 = .ok (.if_icmp .ge 62, 3) := by decide +kernel
theorem dX10_kind_40 : decode cX10_kind 40 = .ok (.aload_n 0, 1) := by decide +kernel
theorem dX10_kind_41 : decode cX10_kind 41 = .ok (.getfield 36, 3) := by decide +kernel
theorem dX10_kind_44 : decode cX10_kind 44 = .ok (.aload_n 0, 1) := by decide +kernel
theorem dX10_kind_45 : decode cX10_kind 45 = .ok (.getfield 30, 3) := by decide +kernel
theorem dX10_kind_48 : decode cX10_kind 48 = .ok (.invokevirtual 176, 3) := by decide +kernel
theorem dX10_kind_51 : decode cX10_kind 51 = .ok (.aload_n 0, 1) := by decide +kernel
theorem dX10_kind_52 : decode cX10_kind 52 = .ok (.getfield 36, 3) := by decide +kernel
theorem dX10_kind_55 : decode cX10_kind 55 = .ok (.getfield 106, 3) := by decide +kernel
theorem dX10_kind_58 : decode cX10_kind 58 = .ok (.iload_n 1, 1) := by decide +kernel
theorem dX10_kind_59 : decode cX10_kind 59 = .ok (.iload 5, 2) := by decide +kernel
theorem dX10_kind_61 : decode cX10_kind 61 = .ok (.iastore, 1) := by decide +kernel
theorem dX10_kind_62 : decode cX10_kind 62 = .ok (.aload_n 0, 1) := by decide +kernel
theorem dX10_kind_63 : decode cX10_kind 63 = .ok (.getfield 36, 3) := by decide +kernel
theorem dX10_kind_66 : decode cX10_kind 66 = .ok (.iload_n 2, 1) := by decide +kernel
theorem dX10_kind_67 : decode cX10_kind 67 = .ok (.invokevirtual 156, 3) := by decide +kernel
theorem dX10_kind_70 : decode cX10_kind 70 = .ok (.aload_n 0, 1) := by decide +kernel
theorem dX10_kind_71 : decode cX10_kind 71 = .ok (.getfield 36, 3) := by decide +kernel
theorem dX10_kind_74 : decode cX10_kind 74 = .ok (.iload_n 1, 1) := by decide +kernel
theorem dX10_kind_75 : decode cX10_kind 75 = .ok (.invokevirtual 130, 3) := by decide +kernel
theorem dX10_kind_78 : decode cX10_kind 78 = .ok (.istore 6, 2) := by decide +kernel
theorem dX10_kind_80 : decode cX10_kind 80 = .ok (.iload 6, 2) := by decide +kernel
theorem dX10_kind_82 : decode cX10_kind 82 = .ok (.iload_n 3, 1) := by decide +kernel
theorem dX10_kind_83 : decode cX10_kind 83 = .ok (.if_icmp .le 10, 3) := by decide +kernel
theorem dX10_kind_86 : decode cX10_kind 86 = .ok (.iload 6, 2) := by decide +kernel
theorem dX10_kind_88 : decode cX10_kind 88 = .ok (.istore_n 3, 1) := by decide +kernel
theorem dX10_kind_89 : decode cX10_kind 89 = .ok (.iload 5, 2) := by decide +kernel
theorem dX10_kind_91 : decode cX10_kind 91 = .ok (.istore 4, 2) := by decide +kernel
theorem dX10_kind_93 : decode cX10_kind 93 = .ok (.iinc 5 1, 3) := by decide +kernel
theorem dX10_kind_96 : decode cX10_kind 96 = .ok (.goto (-63), 3) := by decide +kernel
theorem dX10_kind_99 : decode cX10_kind 99 = .ok (.iload 4, 2) := by decide +kernel
theorem dX10_kind_101 : decode cX10_kind 101 = .ok (.ireturn, 1) := by decide +kernel
theorem dX10_keep_0 : decode cX10_keep 0 = .ok (.aload_n 0, 1) := by decide +kernel
theorem dX10_keep_1 : decode cX10_keep 1 = .ok (.iload_n 1, 1) := by decide +kernel
theorem dX10_keep_2 : decode cX10_keep 2 = .ok (.invokevirtual 103, 3) := by decide +kernel
theorem dX10_keep_5 : decode cX10_keep 5 = .ok (.ifCond .eq 20, 3) := by decide +kernel
theorem dX10_keep_8 : decode cX10_keep 8 = .ok (.iload_n 2, 1) := by decide +kernel
theorem dX10_keep_9 : decode cX10_keep 9 = .ok (.invokestatic 73, 3) := by decide +kernel
theorem dX10_keep_12 : decode cX10_keep 12 = .ok (.ifCond .eq 13, 3) := by decide +kernel
theorem dX10_keep_15 : decode cX10_keep 15 = .ok (.iload_n 3, 1) := by decide +kernel
theorem dX10_keep_16 : decode cX10_keep 16 = .ok (.iconst 1, 1) := by decide +kernel
theorem dX10_keep_17 : decode cX10_keep 17 = .ok (.bipush 80, 2) := by decide +kernel
theorem dX10_keep_19 : decode cX10_keep 19 = .ok (.invokestatic 149, 3) := by decide +kernel
theorem dX10_keep_22 : decode cX10_keep 22 = .ok (.ifCond .ne 10, 3) := by decide +kernel
theorem dX10_keep_25 : decode cX10_keep 25 = .ok (.aload_n 0, 1) := by decide +kernel
theorem dX10_keep_26 : decode cX10_keep 26 = .ok (.ldc 80, 2) := by decide +kernel
theorem dX10_keep_28 : decode cX10_keep 28 = .ok (.invokevirtual 81, 3) := by decide +kernel
theorem dX10_keep_31 : decode cX10_keep 31 = .ok (.ireturn, 1) := by decide +kernel
theorem dX10_keep_32 : decode cX10_keep 32 = .ok (.iconst 0, 1) := by decide +kernel
theorem dX10_keep_33 : decode cX10_keep 33 = .ok (.istore 4, 2) := by decide +kernel
theorem dX10_keep_35 : decode cX10_keep 35 = .ok (.iload 4, 2) := by decide +kernel
theorem dX10_keep_37 : decode cX10_keep 37 = .ok (.bipush 99, 2) := by decide +kernel
theorem dX10_keep_39 : decode cX10_keep 39 = .ok (.if_icmp .gt 54, 3) := by decide +kernel
theorem dX10_keep_42 : decode cX10_keep 42 = .ok (.aload_n 0, 1) := by decide +kernel
theorem dX10_keep_43 : decode cX10_keep 43 = .ok (.getfield 36, 3) := by decide +kernel
theorem dX10_keep_46 : decode cX10_keep 46 = .ok (.aload_n 0, 1) := by decide +kernel
theorem dX10_keep_47 : decode cX10_keep 47 = .ok (.getfield 30, 3) := by decide +kernel
theorem dX10_keep_50 : decode cX10_keep 50 = .ok (.invokevirtual 176, 3) := by decide +kernel
theorem dX10_keep_53 : decode cX10_keep 53 = .ok (.aload_n 0, 1) := by decide +kernel
theorem dX10_keep_54 : decode cX10_keep 54 = .ok (.getfield 36, 3) := by decide +kernel
theorem dX10_keep_57 : decode cX10_keep 57 = .ok (.getfield 85, 3) := by decide +kernel
theorem dX10_keep_60 : decode cX10_keep 60 = .ok (.iload_n 2, 1) := by decide +kernel
theorem dX10_keep_61 : decode cX10_keep 61 = .ok (.iload 4, 2) := by decide +kernel
theorem dX10_keep_63 : decode cX10_keep 63 = .ok (.iastore, 1) := by decide +kernel
theorem dX10_keep_64 : decode cX10_keep 64 = .ok (.aload_n 0, 1) := by decide +kernel
theorem dX10_keep_65 : decode cX10_keep 65 = .ok (.getfield 36, 3) := by decide +kernel
theorem dX10_keep_68 : decode cX10_keep 68 = .ok (.iload_n 3, 1) := by decide +kernel
theorem dX10_keep_69 : decode cX10_keep 69 = .ok (.invokevirtual 156, 3) := by decide +kernel
theorem dX10_keep_72 : decode cX10_keep 72 = .ok (.aload_n 0, 1) := by decide +kernel
theorem dX10_keep_73 : decode cX10_keep 73 = .ok (.getfield 36, 3) := by decide +kernel
theorem dX10_keep_76 : decode cX10_keep 76 = .ok (.iload_n 1, 1) := by decide +kernel
theorem dX10_keep_77 : decode cX10_keep 77 = .ok (.iload_n 2, 1) := by decide +kernel
theorem dX10_keep_78 : decode cX10_keep 78 = .ok (.invokevirtual 92, 3) := by decide +kernel
theorem dX10_keep_81 : decode cX10_keep 81 = .ok (.ifCond .eq 6, 3) := by decide +kernel
theorem dX10_keep_84 : decode cX10_keep 84 = .ok (.iload 4, 2) := by decide +kernel
theorem dX10_keep_86 : decode cX10_keep 86 = .ok (.ireturn, 1) := by decide +kernel
theorem dX10_keep_87 : decode cX10_keep 87 = .ok (.iinc 4 1, 3) := by decide +kernel
theorem dX10_keep_90 : decode cX10_keep 90 = .ok (.goto (-55), 3) := by decide +kernel
theorem dX10_keep_93 : decode cX10_keep 93 = .ok (.aload_n 0, 1) := by decide +kernel
theorem dX10_keep_94 : decode cX10_keep 94 = .ok (.ldc 187, 2) := by decide +kernel
theorem dX10_keep_96 : decode cX10_keep 96 = .ok (.invokevirtual 81, 3) := by decide +kernel
theorem dX10_keep_99 : decode cX10_keep 99 = .ok (.ireturn, 1) := by decide +kernel
theorem dX10_best_0 : decode cX10_best 0 = .ok (.aload_n 0, 1) := by decide +kernel
theorem dX10_best_1 : decode cX10_best 1 = .ok (.iload_n 1, 1) := by decide +kernel
theorem dX10_best_2 : decode cX10_best 2 = .ok (.invokevirtual 103, 3) := by decide +kernel
theorem dX10_best_5 : decode cX10_best 5 = .ok (.ifCond .eq 13, 3) := by decide +kernel
theorem dX10_best_8 : decode cX10_best 8 = .ok (.iload_n 2, 1) := by decide +kernel
theorem dX10_best_9 : decode cX10_best 9 = .ok (.iconst 1, 1) := by decide +kernel
theorem dX10_best_10 : decode cX10_best 10 = .ok (.bipush 80, 2) := by decide +kernel
theorem dX10_best_12 : decode cX10_best 12 = .ok (.invokestatic 149, 3) := by decide +kernel
theorem dX10_best_15 : decode cX10_best 15 = .ok (.ifCond .ne 10, 3) := by decide +kernel
theorem dX10_best_18 : decode cX10_best 18 = .ok (.aload_n 0, 1) := by decide +kernel
theorem dX10_best_19 : decode cX10_best 19 = .ok (.ldc 80, 2) := by decide +kernel
theorem dX10_best_21 : decode cX10_best 21 = .ok (.invokevirtual 81, 3) := by decide +kernel
theorem dX10_best_24 : decode cX10_best 24 = .ok (.ireturn, 1) := by decide +kernel
theorem dX10_best_25 : decode cX10_best 25 = .ok (.iconst (-1), 1) := by decide +kernel
theorem dX10_best_26 : decode cX10_best 26 = .ok (.istore_n 3, 1) := by decide +kernel
theorem dX10_best_27 : decode cX10_best 27 = .ok (.iconst (-1), 1) := by decide +kernel
theorem dX10_best_28 : decode cX10_best 28 = .ok (.istore 4, 2) := by decide +kernel
theorem dX10_best_30 : decode cX10_best 30 = .ok (.iconst 0, 1) := by decide +kernel
theorem dX10_best_31 : decode cX10_best 31 = .ok (.istore 5, 2) := by decide +kernel
theorem dX10_best_33 : decode cX10_best 33 = .ok (.iload 5, 2) := by decide +kernel
theorem dX10_best_35 : decode cX10_best 35 = .ok (.bipush 16, 2) := by decide +kernel
theorem dX10_best_37 : decode cX10_best 37 = .ok (.if_icmp .ge 84, 3) := by decide +kernel
theorem dX10_best_40 : decode cX10_best 40 = .ok (.aload_n 0, 1) := by decide +kernel
theorem dX10_best_41 : decode cX10_best 41 = .ok (.getfield 30, 3) := by decide +kernel
theorem dX10_best_44 : decode cX10_best 44 = .ok (.iload_n 1, 1) := by decide +kernel
theorem dX10_best_45 : decode cX10_best 45 = .ok (.iload 5, 2) := by decide +kernel
theorem dX10_best_47 : decode cX10_best 47 = .ok (.invokevirtual 92, 3) := by decide +kernel
theorem dX10_best_50 : decode cX10_best 50 = .ok (.ifCond .eq 6, 3) := by decide +kernel
theorem dX10_best_53 : decode cX10_best 53 = .ok (.goto 62, 3) := by decide +kernel
theorem dX10_best_56 : decode cX10_best 56 = .ok (.aload_n 0, 1) := by decide +kernel
theorem dX10_best_57 : decode cX10_best 57 = .ok (.getfield 36, 3) := by decide +kernel
theorem dX10_best_60 : decode cX10_best 60 = .ok (.aload_n 0, 1) := by decide +kernel
theorem dX10_best_61 : decode cX10_best 61 = .ok (.getfield 30, 3) := by decide +kernel
theorem dX10_best_64 : decode cX10_best 64 = .ok (.invokevirtual 176, 3) := by decide +kernel
theorem dX10_best_67 : decode cX10_best 67 = .ok (.aload_n 0, 1) := by decide +kernel
theorem dX10_best_68 : decode cX10_best 68 = .ok (.getfield 36, 3) := by decide +kernel
theorem dX10_best_71 : decode cX10_best 71 = .ok (.getfield 112, 3) := by decide +kernel
theorem dX10_best_74 : decode cX10_best 74 = .ok (.iload_n 1, 1) := by decide +kernel
theorem dX10_best_75 : decode cX10_best 75 = .ok (.dup2, 1) := by decide +kernel
theorem dX10_best_76 : decode cX10_best 76 = .ok (.iaload, 1) := by decide +kernel
theorem dX10_best_77 : decode cX10_best 77 = .ok (.iload 5, 2) := by decide +kernel
theorem dX10_best_79 : decode cX10_best 79 = .ok (.invokestatic 142, 3) := by decide +kernel
theorem dX10_best_82 : decode cX10_best 82 = .ok (.ior, 1) := by decide +kernel
theorem dX10_best_83 : decode cX10_best 83 = .ok (.iastore, 1) := by decide +kernel
theorem dX10_best_84 : decode cX10_best 84 = .ok (.aload_n 0, 1) := by decide +kernel
theorem dX10_best_85 : decode cX10_best 85 = .ok (.getfield 36, 3) := by decide +kernel
theorem dX10_best_88 : decode cX10_best 88 = .ok (.iload_n 2, 1) := by decide +kernel
theorem dX10_best_89 : decode cX10_best 89 = .ok (.invokevirtual 156, 3) := by decide +kernel
theorem dX10_best_92 : decode cX10_best 92 = .ok (.aload_n 0, 1) := by decide +kernel
theorem dX10_best_93 : decode cX10_best 93 = .ok (.getfield 36, 3) := by decide +kernel
theorem dX10_best_96 : decode cX10_best 96 = .ok (.iload_n 1, 1) := by decide +kernel
theorem dX10_best_97 : decode cX10_best 97 = .ok (.invokevirtual 130, 3) := by decide +kernel
theorem dX10_best_100 : decode cX10_best 100 = .ok (.istore 6, 2) := by decide +kernel
theorem dX10_best_102 : decode cX10_best 102 = .ok (.iload 6, 2) := by decide +kernel
theorem dX10_best_104 : decode cX10_best 104 = .ok (.iload_n 3, 1) := by decide +kernel
theorem dX10_best_105 : decode cX10_best 105 = .ok (.if_icmp .le 10, 3) := by decide +kernel
theorem dX10_best_108 : decode cX10_best 108 = .ok (.iload 6, 2) := by decide +kernel
theorem dX10_best_110 : decode cX10_best 110 = .ok (.istore_n 3, 1) := by decide +kernel
theorem dX10_best_111 : decode cX10_best 111 = .ok (.iload 5, 2) := by decide +kernel
theorem dX10_best_113 : decode cX10_best 113 = .ok (.istore 4, 2) := by decide +kernel
theorem dX10_best_115 : decode cX10_best 115 = .ok (.iinc 5 1, 3) := by decide +kernel
theorem dX10_best_118 : decode cX10_best 118 = .ok (.goto (-85), 3) := by decide +kernel
theorem dX10_best_121 : decode cX10_best 121 = .ok (.iload 4, 2) := by decide +kernel
theorem dX10_best_123 : decode cX10_best 123 = .ok (.iconst (-1), 1) := by decide +kernel
theorem dX10_best_124 : decode cX10_best 124 = .ok (.if_icmp .ne 12, 3) := by decide +kernel
theorem dX10_best_127 : decode cX10_best 127 = .ok (.aload_n 0, 1) := by decide +kernel
theorem dX10_best_128 : decode cX10_best 128 = .ok (.ldc 187, 2) := by decide +kernel
theorem dX10_best_130 : decode cX10_best 130 = .ok (.invokevirtual 81, 3) := by decide +kernel
theorem dX10_best_133 : decode cX10_best 133 = .ok (.goto 5, 3) := by decide +kernel
theorem dX10_best_136 : decode cX10_best 136 = .ok (.iload 4, 2) := by decide +kernel
theorem dX10_best_138 : decode cX10_best 138 = .ok (.ireturn, 1) := by decide +kernel
theorem dX10_richest_0 : decode cX10_richest 0 = .ok (.iload_n 1, 1) := by decide +kernel
theorem dX10_richest_1 : decode cX10_richest 1 = .ok (.iconst 0, 1) := by decide +kernel
theorem dX10_richest_2 : decode cX10_richest 2 = .ok (.bipush 80, 2) := by decide +kernel
theorem dX10_richest_4 : decode cX10_richest 4 = .ok (.invokestatic 149, 3) := by decide +kernel
theorem dX10_richest_7 : decode cX10_richest 7 = .ok (.ifCond .ne 10, 3) := by decide +kernel
theorem dX10_richest_10 : decode cX10_richest 10 = .ok (.aload_n 0, 1) := by decide +kernel
theorem dX10_richest_11 : decode cX10_richest 11 = .ok (.ldc 80, 2) := by decide +kernel
theorem dX10_richest_13 : decode cX10_richest 13 = .ok (.invokevirtual 81, 3) := by decide +kernel
theorem dX10_richest_16 : decode cX10_richest 16 = .ok (.ireturn, 1) := by decide +kernel
theorem dX10_richest_17 : decode cX10_richest 17 = .ok (.aload_n 0, 1) := by decide +kernel
theorem dX10_richest_18 : decode cX10_richest 18 = .ok (.getfield 36, 3) := by decide +kernel
theorem dX10_richest_21 : decode cX10_richest 21 = .ok (.aload_n 0, 1) := by decide +kernel
theorem dX10_richest_22 : decode cX10_richest 22 = .ok (.getfield 30, 3) := by decide +kernel
theorem dX10_richest_25 : decode cX10_richest 25 = .ok (.invokevirtual 176, 3) := by decide +kernel
theorem dX10_richest_28 : decode cX10_richest 28 = .ok (.aload_n 0, 1) := by decide +kernel
theorem dX10_richest_29 : decode cX10_richest 29 = .ok (.getfield 36, 3) := by decide +kernel
theorem dX10_richest_32 : decode cX10_richest 32 = .ok (.iload_n 1, 1) := by decide +kernel
theorem dX10_richest_33 : decode cX10_richest 33 = .ok (.invokevirtual 156, 3) := by decide +kernel
theorem dX10_richest_36 : decode cX10_richest 36 = .ok (.iconst (-1), 1) := by decide +kernel
theorem dX10_richest_37 : decode cX10_richest 37 = .ok (.istore_n 2, 1) := by decide +kernel
theorem dX10_richest_38 : decode cX10_richest 38 = .ok (.iconst (-1), 1) := by decide +kernel
theorem dX10_richest_39 : decode cX10_richest 39 = .ok (.istore_n 3, 1) := by decide +kernel
theorem dX10_richest_40 : decode cX10_richest 40 = .ok (.iconst 0, 1) := by decide +kernel
theorem dX10_richest_41 : decode cX10_richest 41 = .ok (.istore 4, 2) := by decide +kernel
theorem dX10_richest_43 : decode cX10_richest 43 = .ok (.iload 4, 2) := by decide +kernel
theorem dX10_richest_45 : decode cX10_richest 45 = .ok (.aload_n 0, 1) := by decide +kernel
theorem dX10_richest_46 : decode cX10_richest 46 = .ok (.getfield 36, 3) := by decide +kernel
theorem dX10_richest_49 : decode cX10_richest 49 = .ok (.getfield 88, 3) := by decide +kernel
theorem dX10_richest_52 : decode cX10_richest 52 = .ok (.if_icmp .ge 32, 3) := by decide +kernel
theorem dX10_richest_55 : decode cX10_richest 55 = .ok (.aload_n 0, 1) := by decide +kernel
theorem dX10_richest_56 : decode cX10_richest 56 = .ok (.getfield 36, 3) := by decide +kernel
theorem dX10_richest_59 : decode cX10_richest 59 = .ok (.iload 4, 2) := by decide +kernel
theorem dX10_richest_61 : decode cX10_richest 61 = .ok (.invokevirtual 130, 3) := by decide +kernel
theorem dX10_richest_64 : decode cX10_richest 64 = .ok (.istore 5, 2) := by decide +kernel
theorem dX10_richest_66 : decode cX10_richest 66 = .ok (.iload 5, 2) := by decide +kernel
theorem dX10_richest_68 : decode cX10_richest 68 = .ok (.iload_n 2, 1) := by decide +kernel
theorem dX10_richest_69 : decode cX10_richest 69 = .ok (.if_icmp .le 9, 3) := by decide +kernel
theorem dX10_richest_72 : decode cX10_richest 72 = .ok (.iload 5, 2) := by decide +kernel
theorem dX10_richest_74 : decode cX10_richest 74 = .ok (.istore_n 2, 1) := by decide +kernel
theorem dX10_richest_75 : decode cX10_richest 75 = .ok (.iload 4, 2) := by decide +kernel
theorem dX10_richest_77 : decode cX10_richest 77 = .ok (.istore_n 3, 1) := by decide +kernel
theorem dX10_richest_78 : decode cX10_richest 78 = .ok (.iinc 4 1, 3) := by decide +kernel
theorem dX10_richest_81 : decode cX10_richest 81 = .ok (.goto (-38), 3) := by decide +kernel
theorem dX10_richest_84 : decode cX10_richest 84 = .ok (.iload_n 3, 1) := by decide +kernel
theorem dX10_richest_85 : decode cX10_richest 85 = .ok (.iconst (-1), 1) := by decide +kernel
theorem dX10_richest_86 : decode cX10_richest 86 = .ok (.if_icmp .ne 12, 3) := by decide +kernel
theorem dX10_richest_89 : decode cX10_richest 89 = .ok (.aload_n 0, 1) := by decide +kernel
theorem dX10_richest_90 : decode cX10_richest 90 = .ok (.ldc 187, 2) := by decide +kernel
theorem dX10_richest_92 : decode cX10_richest 92 = .ok (.invokevirtual 81, 3) := by decide +kernel
theorem dX10_richest_95 : decode cX10_richest 95 = .ok (.goto 4, 3) := by decide +kernel
theorem dX10_richest_98 : decode cX10_richest 98 = .ok (.iload_n 3, 1) := by decide +kernel
theorem dX10_richest_99 : decode cX10_richest 99 = .ok (.ireturn, 1) := by decide +kernel
theorem dX10_fewest_0 : decode cX10_fewest 0 = .ok (.aload_n 0, 1) := by decide +kernel
theorem dX10_fewest_1 : decode cX10_fewest 1 = .ok (.iload_n 1, 1) := by decide +kernel
theorem dX10_fewest_2 : decode cX10_fewest 2 = .ok (.invokevirtual 103, 3) := by decide +kernel
theorem dX10_fewest_5 : decode cX10_fewest 5 = .ok (.ifCond .eq 20, 3) := by decide +kernel
theorem dX10_fewest_8 : decode cX10_fewest 8 = .ok (.iload_n 2, 1) := by decide +kernel
theorem dX10_fewest_9 : decode cX10_fewest 9 = .ok (.invokestatic 73, 3) := by decide +kernel
theorem dX10_fewest_12 : decode cX10_fewest 12 = .ok (.ifCond .eq 13, 3) := by decide +kernel
theorem dX10_fewest_15 : decode cX10_fewest 15 = .ok (.iload_n 3, 1) := by decide +kernel
theorem dX10_fewest_16 : decode cX10_fewest 16 = .ok (.iconst 1, 1) := by decide +kernel
theorem dX10_fewest_17 : decode cX10_fewest 17 = .ok (.bipush 20, 2) := by decide +kernel
theorem dX10_fewest_19 : decode cX10_fewest 19 = .ok (.invokestatic 149, 3) := by decide +kernel
theorem dX10_fewest_22 : decode cX10_fewest 22 = .ok (.ifCond .ne 10, 3) := by decide +kernel
theorem dX10_fewest_25 : decode cX10_fewest 25 = .ok (.aload_n 0, 1) := by decide +kernel
theorem dX10_fewest_26 : decode cX10_fewest 26 = .ok (.ldc 80, 2) := by decide +kernel
theorem dX10_fewest_28 : decode cX10_fewest 28 = .ok (.invokevirtual 81, 3) := by decide +kernel
theorem dX10_fewest_31 : decode cX10_fewest 31 = .ok (.ireturn, 1) := by decide +kernel
theorem dX10_fewest_32 : decode cX10_fewest 32 = .ok (.aload_n 0, 1) := by decide +kernel
theorem dX10_fewest_33 : decode cX10_fewest 33 = .ok (.getfield 30, 3) := by decide +kernel
theorem dX10_fewest_36 : decode cX10_fewest 36 = .ok (.iload_n 1, 1) := by decide +kernel
theorem dX10_fewest_37 : decode cX10_fewest 37 = .ok (.iload_n 2, 1) := by decide +kernel
theorem dX10_fewest_38 : decode cX10_fewest 38 = .ok (.invokevirtual 92, 3) := by decide +kernel
theorem dX10_fewest_41 : decode cX10_fewest 41 = .ok (.ifCond .ne 10, 3) := by decide +kernel
theorem dX10_fewest_44 : decode cX10_fewest 44 = .ok (.aload_n 0, 1) := by decide +kernel
theorem dX10_fewest_45 : decode cX10_fewest 45 = .ok (.ldc 145, 2) := by decide +kernel
theorem dX10_fewest_47 : decode cX10_fewest 47 = .ok (.invokevirtual 81, 3) := by decide +kernel
theorem dX10_fewest_50 : decode cX10_fewest 50 = .ok (.ireturn, 1) := by decide +kernel
theorem dX10_fewest_51 : decode cX10_fewest 51 = .ok (.aload_n 0, 1) := by decide +kernel
theorem dX10_fewest_52 : decode cX10_fewest 52 = .ok (.getfield 30, 3) := by decide +kernel
theorem dX10_fewest_55 : decode cX10_fewest 55 = .ok (.getfield 112, 3) := by decide +kernel
theorem dX10_fewest_58 : decode cX10_fewest 58 = .ok (.iload_n 1, 1) := by decide +kernel
theorem dX10_fewest_59 : decode cX10_fewest 59 = .ok (.iaload, 1) := by decide +kernel
theorem dX10_fewest_60 : decode cX10_fewest 60 = .ok (.iload_n 2, 1) := by decide +kernel
theorem dX10_fewest_61 : decode cX10_fewest 61 = .ok (.invokestatic 142, 3) := by decide +kernel
theorem dX10_fewest_64 : decode cX10_fewest 64 = .ok (.iconst (-1), 1) := by decide +kernel
theorem dX10_fewest_65 : decode cX10_fewest 65 = .ok (.ixor, 1) := by decide +kernel
theorem dX10_fewest_66 : decode cX10_fewest 66 = .ok (.iand, 1) := by decide +kernel
theorem dX10_fewest_67 : decode cX10_fewest 67 = .ok (.istore 4, 2) := by decide +kernel
theorem dX10_fewest_69 : decode cX10_fewest 69 = .ok (.iload 4, 2) := by decide +kernel
theorem dX10_fewest_71 : decode cX10_fewest 71 = .ok (.invokestatic 188, 3) := by decide +kernel
theorem dX10_fewest_74 : decode cX10_fewest 74 = .ok (.istore 5, 2) := by decide +kernel
theorem dX10_fewest_76 : decode cX10_fewest 76 = .ok (.iload 5, 2) := by decide +kernel
theorem dX10_fewest_78 : decode cX10_fewest 78 = .ok (.bipush 8, 2) := by decide +kernel
theorem dX10_fewest_80 : decode cX10_fewest 80 = .ok (.if_icmp .le 10, 3) := by decide +kernel
theorem dX10_fewest_83 : decode cX10_fewest 83 = .ok (.aload_n 0, 1) := by decide +kernel
theorem dX10_fewest_84 : decode cX10_fewest 84 = .ok (.ldc 193, 2) := by decide +kernel
theorem dX10_fewest_86 : decode cX10_fewest 86 = .ok (.invokevirtual 81, 3) := by decide +kernel
theorem dX10_fewest_89 : decode cX10_fewest 89 = .ok (.ireturn, 1) := by decide +kernel
theorem dX10_fewest_90 : decode cX10_fewest 90 = .ok (.iload 5, 2) := by decide +kernel
theorem dX10_fewest_92 : decode cX10_fewest 92 = .ok (.iconst 1, 1) := by decide +kernel
theorem dX10_fewest_93 : decode cX10_fewest 93 = .ok (.iadd, 1) := by decide +kernel
theorem dX10_fewest_94 : decode cX10_fewest 94 = .ok (.istore 6, 2) := by decide +kernel
theorem dX10_fewest_96 : decode cX10_fewest 96 = .ok (.iconst (-1), 1) := by decide +kernel
theorem dX10_fewest_97 : decode cX10_fewest 97 = .ok (.istore 7, 2) := by decide +kernel
theorem dX10_fewest_99 : decode cX10_fewest 99 = .ok (.iconst 0, 1) := by decide +kernel
theorem dX10_fewest_100 : decode cX10_fewest 100 = .ok (.istore 8, 2) := by decide +kernel
theorem dX10_fewest_102 : decode cX10_fewest 102 = .ok (.iconst 0, 1) := by decide +kernel
theorem dX10_fewest_103 : decode cX10_fewest 103 = .ok (.istore 9, 2) := by decide +kernel
theorem dX10_fewest_105 : decode cX10_fewest 105 = .ok (.iload 9, 2) := by decide +kernel
theorem dX10_fewest_107 : decode cX10_fewest 107 = .ok (.iconst 1, 1) := by decide +kernel
theorem dX10_fewest_108 : decode cX10_fewest 108 = .ok (.iload 5, 2) := by decide +kernel
theorem dX10_fewest_110 : decode cX10_fewest 110 = .ok (.ishl, 1) := by decide +kernel
theorem dX10_fewest_111 : decode cX10_fewest 111 = .ok (.if_icmp .ge 53, 3) := by decide +kernel
theorem dX10_fewest_114 : decode cX10_fewest 114 = .ok (.iload 8, 2) := by decide +kernel
theorem dX10_fewest_116 : decode cX10_fewest 116 = .ok (.invokestatic 188, 3) := by decide +kernel
theorem dX10_fewest_119 : decode cX10_fewest 119 = .ok (.istore 10, 2) := by decide +kernel
theorem dX10_fewest_121 : decode cX10_fewest 121 = .ok (.iload 10, 2) := by decide +kernel
theorem dX10_fewest_123 : decode cX10_fewest 123 = .ok (.iload 6, 2) := by decide +kernel
theorem dX10_fewest_125 : decode cX10_fewest 125 = .ok (.if_icmp .ge 23, 3) := by decide +kernel
theorem dX10_fewest_128 : decode cX10_fewest 128 = .ok (.aload_n 0, 1) := by decide +kernel
theorem dX10_fewest_129 : decode cX10_fewest 129 = .ok (.iload_n 1, 1) := by decide +kernel
theorem dX10_fewest_130 : decode cX10_fewest 130 = .ok (.iload_n 2, 1) := by decide +kernel
theorem dX10_fewest_131 : decode cX10_fewest 131 = .ok (.iload_n 3, 1) := by decide +kernel
theorem dX10_fewest_132 : decode cX10_fewest 132 = .ok (.iload 8, 2) := by decide +kernel
theorem dX10_fewest_134 : decode cX10_fewest 134 = .ok (.invokevirtual 194, 3) := by decide +kernel
theorem dX10_fewest_137 : decode cX10_fewest 137 = .ok (.ifCond .eq 11, 3) := by decide +kernel
theorem dX10_fewest_140 : decode cX10_fewest 140 = .ok (.iload 10, 2) := by decide +kernel
theorem dX10_fewest_142 : decode cX10_fewest 142 = .ok (.istore 6, 2) := by decide +kernel
theorem dX10_fewest_144 : decode cX10_fewest 144 = .ok (.iload 8, 2) := by decide +kernel
theorem dX10_fewest_146 : decode cX10_fewest 146 = .ok (.istore 7, 2) := by decide +kernel
theorem dX10_fewest_148 : decode cX10_fewest 148 = .ok (.iload 8, 2) := by decide +kernel
theorem dX10_fewest_150 : decode cX10_fewest 150 = .ok (.iload 4, 2) := by decide +kernel
theorem dX10_fewest_152 : decode cX10_fewest 152 = .ok (.isub, 1) := by decide +kernel
theorem dX10_fewest_153 : decode cX10_fewest 153 = .ok (.iload 4, 2) := by decide +kernel
theorem dX10_fewest_155 : decode cX10_fewest 155 = .ok (.iand, 1) := by decide +kernel
theorem dX10_fewest_156 : decode cX10_fewest 156 = .ok (.istore 8, 2) := by decide +kernel
theorem dX10_fewest_158 : decode cX10_fewest 158 = .ok (.iinc 9 1, 3) := by decide +kernel
theorem dX10_fewest_161 : decode cX10_fewest 161 = .ok (.goto (-56), 3) := by decide +kernel
theorem dX10_fewest_164 : decode cX10_fewest 164 = .ok (.iload 7, 2) := by decide +kernel
theorem dX10_fewest_166 : decode cX10_fewest 166 = .ok (.ifCond .ge 12, 3) := by decide +kernel
theorem dX10_fewest_169 : decode cX10_fewest 169 = .ok (.aload_n 0, 1) := by decide +kernel
theorem dX10_fewest_170 : decode cX10_fewest 170 = .ok (.ldc 187, 2) := by decide +kernel
theorem dX10_fewest_172 : decode cX10_fewest 172 = .ok (.invokevirtual 81, 3) := by decide +kernel
theorem dX10_fewest_175 : decode cX10_fewest 175 = .ok (.goto 5, 3) := by decide +kernel
theorem dX10_fewest_178 : decode cX10_fewest 178 = .ok (.iload 7, 2) := by decide +kernel
theorem dX10_fewest_180 : decode cX10_fewest 180 = .ok (.ireturn, 1) := by decide +kernel
theorem dX10_feed_0 : decode cX10_feed 0 = .ok (.iload_n 2, 1) := by decide +kernel
theorem dX10_feed_1 : decode cX10_feed 1 = .ok (.iconst 1, 1) := by decide +kernel
theorem dX10_feed_2 : decode cX10_feed 2 = .ok (.iconst 4, 1) := by decide +kernel
theorem dX10_feed_3 : decode cX10_feed 3 = .ok (.invokestatic 149, 3) := by decide +kernel
theorem dX10_feed_6 : decode cX10_feed 6 = .ok (.ifCond .ne 10, 3) := by decide +kernel
theorem dX10_feed_9 : decode cX10_feed 9 = .ok (.aload_n 0, 1) := by decide +kernel
theorem dX10_feed_10 : decode cX10_feed 10 = .ok (.ldc 80, 2) := by decide +kernel
theorem dX10_feed_12 : decode cX10_feed 12 = .ok (.invokevirtual 81, 3) := by decide +kernel
theorem dX10_feed_15 : decode cX10_feed 15 = .ok (.ireturn, 1) := by decide +kernel
theorem dX10_feed_16 : decode cX10_feed 16 = .ok (.aload_n 0, 1) := by decide +kernel
theorem dX10_feed_17 : decode cX10_feed 17 = .ok (.getfield 49, 3) := by decide +kernel
theorem dX10_feed_20 : decode cX10_feed 20 = .ok (.getfield 198, 3) := by decide +kernel
theorem dX10_feed_23 : decode cX10_feed 23 = .ok (.iload_n 2, 1) := by decide +kernel
theorem dX10_feed_24 : decode cX10_feed 24 = .ok (.iadd, 1) := by decide +kernel
theorem dX10_feed_25 : decode cX10_feed 25 = .ok (.bipush 120, 2) := by decide +kernel
theorem dX10_feed_27 : decode cX10_feed 27 = .ok (.if_icmp .le 10, 3) := by decide +kernel
theorem dX10_feed_30 : decode cX10_feed 30 = .ok (.aload_n 0, 1) := by decide +kernel
theorem dX10_feed_31 : decode cX10_feed 31 = .ok (.ldc 99, 2) := by decide +kernel
theorem dX10_feed_33 : decode cX10_feed 33 = .ok (.invokevirtual 81, 3) := by decide +kernel
theorem dX10_feed_36 : decode cX10_feed 36 = .ok (.ireturn, 1) := by decide +kernel
theorem dX10_feed_37 : decode cX10_feed 37 = .ok (.iload_n 2, 1) := by decide +kernel
theorem dX10_feed_38 : decode cX10_feed 38 = .ok (.iconst 1, 1) := by decide +kernel
theorem dX10_feed_39 : decode cX10_feed 39 = .ok (.isub, 1) := by decide +kernel
theorem dX10_feed_40 : decode cX10_feed 40 = .ok (.istore_n 3, 1) := by decide +kernel
theorem dX10_feed_41 : decode cX10_feed 41 = .ok (.iload_n 3, 1) := by decide +kernel
theorem dX10_feed_42 : decode cX10_feed 42 = .ok (.ifCond .lt 26, 3) := by decide +kernel
theorem dX10_feed_45 : decode cX10_feed 45 = .ok (.aload_n 0, 1) := by decide +kernel
theorem dX10_feed_46 : decode cX10_feed 46 = .ok (.getfield 49, 3) := by decide +kernel
theorem dX10_feed_49 : decode cX10_feed 49 = .ok (.iload_n 1, 1) := by decide +kernel
theorem dX10_feed_50 : decode cX10_feed 50 = .ok (.bipush 8, 2) := by decide +kernel
theorem dX10_feed_52 : decode cX10_feed 52 = .ok (.iload_n 3, 1) := by decide +kernel
theorem dX10_feed_53 : decode cX10_feed 53 = .ok (.imul, 1) := by decide +kernel
theorem dX10_feed_54 : decode cX10_feed 54 = .ok (.ishr, 1) := by decide +kernel
theorem dX10_feed_55 : decode cX10_feed 55 = .ok (.sipush 255, 3) := by decide +kernel
theorem dX10_feed_58 : decode cX10_feed 58 = .ok (.iand, 1) := by decide +kernel
theorem dX10_feed_59 : decode cX10_feed 59 = .ok (.invokevirtual 201, 3) := by decide +kernel
theorem dX10_feed_62 : decode cX10_feed 62 = .ok (.iinc 3 (-1), 3) := by decide +kernel
theorem dX10_feed_65 : decode cX10_feed 65 = .ok (.goto (-24), 3) := by decide +kernel
theorem dX10_feed_68 : decode cX10_feed 68 = .ok (.aload_n 0, 1) := by decide +kernel
theorem dX10_feed_69 : decode cX10_feed 69 = .ok (.getfield 49, 3) := by decide +kernel
theorem dX10_feed_72 : decode cX10_feed 72 = .ok (.getfield 198, 3) := by decide +kernel
theorem dX10_feed_75 : decode cX10_feed 75 = .ok (.ireturn, 1) := by decide +kernel
theorem dX10_wipe_0 : decode cX10_wipe 0 = .ok (.aload_n 0, 1) := by decide +kernel
theorem dX10_wipe_1 : decode cX10_wipe 1 = .ok (.getfield 49, 3) := by decide +kernel
theorem dX10_wipe_4 : decode cX10_wipe 4 = .ok (.getfield 198, 3) := by decide +kernel
theorem dX10_wipe_7 : decode cX10_wipe 7 = .ok (.istore_n 1, 1) := by decide +kernel
theorem dX10_wipe_8 : decode cX10_wipe 8 = .ok (.aload_n 0, 1) := by decide +kernel
theorem dX10_wipe_9 : decode cX10_wipe 9 = .ok (.getfield 49, 3) := by decide +kernel
theorem dX10_wipe_12 : decode cX10_wipe 12 = .ok (.iconst 0, 1) := by decide +kernel
theorem dX10_wipe_13 : decode cX10_wipe 13 = .ok (.putfield 198, 3) := by decide +kernel
theorem dX10_wipe_16 : decode cX10_wipe 16 = .ok (.iload_n 1, 1) := by decide +kernel
theorem dX10_wipe_17 : decode cX10_wipe 17 = .ok (.ireturn, 1) := by decide +kernel
theorem dX10_family_0 : decode cX10_family 0 = .ok (.aload_n 0, 1) := by decide +kernel
theorem dX10_family_1 : decode cX10_family 1 = .ok (.getfield 36, 3) := by decide +kernel
theorem dX10_family_4 : decode cX10_family 4 = .ok (.aload_n 0, 1) := by decide +kernel
theorem dX10_family_5 : decode cX10_family 5 = .ok (.getfield 30, 3) := by decide +kernel
theorem dX10_family_8 : decode cX10_family 8 = .ok (.invokevirtual 176, 3) := by decide +kernel
theorem dX10_family_11 : decode cX10_family 11 = .ok (.aload_n 0, 1) := by decide +kernel
theorem dX10_family_12 : decode cX10_family 12 = .ok (.getfield 58, 3) := by decide +kernel
theorem dX10_family_15 : decode cX10_family 15 = .ok (.invokevirtual 204, 3) := by decide +kernel
theorem dX10_family_18 : decode cX10_family 18 = .ok (.istore_n 1, 1) := by decide +kernel
theorem dX10_family_19 : decode cX10_family 19 = .ok (.iload_n 1, 1) := by decide +kernel
theorem dX10_family_20 : decode cX10_family 20 = .ok (.ifCond .lt 14, 3) := by decide +kernel
theorem dX10_family_23 : decode cX10_family 23 = .ok (.aload_n 0, 1) := by decide +kernel
theorem dX10_family_24 : decode cX10_family 24 = .ok (.getfield 30, 3) := by decide +kernel
theorem dX10_family_27 : decode cX10_family 27 = .ok (.aload_n 0, 1) := by decide +kernel
theorem dX10_family_28 : decode cX10_family 28 = .ok (.getfield 36, 3) := by decide +kernel
theorem dX10_family_31 : decode cX10_family 31 = .ok (.invokevirtual 176, 3) := by decide +kernel
theorem dX10_family_34 : decode cX10_family 34 = .ok (.aload_n 0, 1) := by decide +kernel
theorem dX10_family_35 : decode cX10_family 35 = .ok (.getfield 49, 3) := by decide +kernel
theorem dX10_family_38 : decode cX10_family 38 = .ok (.iconst 0, 1) := by decide +kernel
theorem dX10_family_39 : decode cX10_family 39 = .ok (.putfield 198, 3) := by decide +kernel
theorem dX10_family_42 : decode cX10_family 42 = .ok (.iload_n 1, 1) := by decide +kernel
theorem dX10_family_43 : decode cX10_family 43 = .ok (.ireturn, 1) := by decide +kernel
theorem dX10_sheet_0 : decode cX10_sheet 0 = .ok (.iload_n 1, 1) := by decide +kernel
theorem dX10_sheet_1 : decode cX10_sheet 1 = .ok (.invokestatic 207, 3) := by decide +kernel
theorem dX10_sheet_4 : decode cX10_sheet 4 = .ok (.ifCond .eq 25, 3) := by decide +kernel
theorem dX10_sheet_7 : decode cX10_sheet 7 = .ok (.iload_n 2, 1) := by decide +kernel
theorem dX10_sheet_8 : decode cX10_sheet 8 = .ok (.ifCond .eq 28, 3) := by decide +kernel
theorem dX10_sheet_11 : decode cX10_sheet 11 = .ok (.iload_n 2, 1) := by decide +kernel
theorem dX10_sheet_12 : decode cX10_sheet 12 = .ok (.bipush 8, 2) := by decide +kernel
theorem dX10_sheet_14 : decode cX10_sheet 14 = .ok (.if_icmp .eq 22, 3) := by decide +kernel
theorem dX10_sheet_17 : decode cX10_sheet 17 = .ok (.iload_n 2, 1) := by decide +kernel
theorem dX10_sheet_18 : decode cX10_sheet 18 = .ok (.bipush 16, 2) := by decide +kernel
theorem dX10_sheet_20 : decode cX10_sheet 20 = .ok (.if_icmp .eq 16, 3) := by decide +kernel
theorem dX10_sheet_23 : decode cX10_sheet 23 = .ok (.iload_n 2, 1) := by decide +kernel
theorem dX10_sheet_24 : decode cX10_sheet 24 = .ok (.bipush 64, 2) := by decide +kernel
theorem dX10_sheet_26 : decode cX10_sheet 26 = .ok (.if_icmp .eq 10, 3) := by decide +kernel
theorem dX10_sheet_29 : decode cX10_sheet 29 = .ok (.aload_n 0, 1) := by decide +kernel
theorem dX10_sheet_30 : decode cX10_sheet 30 = .ok (.ldc 80, 2) := by decide +kernel
theorem dX10_sheet_32 : decode cX10_sheet 32 = .ok (.invokevirtual 81, 3) := by decide +kernel
theorem dX10_sheet_35 : decode cX10_sheet 35 = .ok (.ireturn, 1) := by decide +kernel
theorem dX10_sheet_36 : decode cX10_sheet 36 = .ok (.iload_n 3, 1) := by decide +kernel
theorem dX10_sheet_37 : decode cX10_sheet 37 = .ok (.ifCond .ge 10, 3) := by decide +kernel
theorem dX10_sheet_40 : decode cX10_sheet 40 = .ok (.aload_n 0, 1) := by decide +kernel
theorem dX10_sheet_41 : decode cX10_sheet 41 = .ok (.ldc 193, 2) := by decide +kernel
theorem dX10_sheet_43 : decode cX10_sheet 43 = .ok (.invokevirtual 81, 3) := by decide +kernel
theorem dX10_sheet_46 : decode cX10_sheet 46 = .ok (.ireturn, 1) := by decide +kernel
theorem dX10_sheet_47 : decode cX10_sheet 47 = .ok (.iload_n 3, 1) := by decide +kernel
theorem dX10_sheet_48 : decode cX10_sheet 48 = .ok (.bipush 40, 2) := by decide +kernel
theorem dX10_sheet_50 : decode cX10_sheet 50 = .ok (.if_icmp .le 10, 3) := by decide +kernel
theorem dX10_sheet_53 : decode cX10_sheet 53 = .ok (.aload_n 0, 1) := by decide +kernel
theorem dX10_sheet_54 : decode cX10_sheet 54 = .ok (.ldc 80, 2) := by decide +kernel
theorem dX10_sheet_56 : decode cX10_sheet 56 = .ok (.invokevirtual 81, 3) := by decide +kernel
theorem dX10_sheet_59 : decode cX10_sheet 59 = .ok (.ireturn, 1) := by decide +kernel
theorem dX10_sheet_60 : decode cX10_sheet 60 = .ok (.aload_n 0, 1) := by decide +kernel
theorem dX10_sheet_61 : decode cX10_sheet 61 = .ok (.getfield 64, 3) := by decide +kernel
theorem dX10_sheet_64 : decode cX10_sheet 64 = .ok (.iload_n 1, 1) := by decide +kernel
theorem dX10_sheet_65 : decode cX10_sheet 65 = .ok (.aaload, 1) := by decide +kernel
theorem dX10_sheet_66 : decode cX10_sheet 66 = .ok (.iload_n 2, 1) := by decide +kernel
theorem dX10_sheet_67 : decode cX10_sheet 67 = .ok (.iload_n 3, 1) := by decide +kernel
theorem dX10_sheet_68 : decode cX10_sheet 68 = .ok (.invokevirtual 210, 3) := by decide +kernel
theorem dX10_sheet_71 : decode cX10_sheet 71 = .ok (.aload_n 0, 1) := by decide +kernel
theorem dX10_sheet_72 : decode cX10_sheet 72 = .ok (.getfield 64, 3) := by decide +kernel
theorem dX10_sheet_75 : decode cX10_sheet 75 = .ok (.iload_n 1, 1) := by decide +kernel
theorem dX10_sheet_76 : decode cX10_sheet 76 = .ok (.aaload, 1) := by decide +kernel
theorem dX10_sheet_77 : decode cX10_sheet 77 = .ok (.getfield 214, 3) := by decide +kernel
theorem dX10_sheet_80 : decode cX10_sheet 80 = .ok (.ireturn, 1) := by decide +kernel
theorem dX10_write_0 : decode cX10_write 0 = .ok (.iload_n 1, 1) := by decide +kernel
theorem dX10_write_1 : decode cX10_write 1 = .ok (.invokestatic 207, 3) := by decide +kernel
theorem dX10_write_4 : decode cX10_write 4 = .ok (.ifCond .ne 11, 3) := by decide +kernel
theorem dX10_write_7 : decode cX10_write 7 = .ok (.aload_n 0, 1) := by decide +kernel
theorem dX10_write_8 : decode cX10_write 8 = .ok (.ldc 80, 2) := by decide +kernel
theorem dX10_write_10 : decode cX10_write 10 = .ok (.invokevirtual 81, 3) := by decide +kernel
theorem dX10_write_13 : decode cX10_write 13 = .ok (.i2l, 1) := by decide +kernel
theorem dX10_write_14 : decode cX10_write 14 = .ok (.lreturn, 1) := by decide +kernel
theorem dX10_write_15 : decode cX10_write 15 = .ok (.aload_n 0, 1) := by decide +kernel
theorem dX10_write_16 : decode cX10_write 16 = .ok (.getfield 64, 3) := by decide +kernel
theorem dX10_write_19 : decode cX10_write 19 = .ok (.iload_n 1, 1) := by decide +kernel
theorem dX10_write_20 : decode cX10_write 20 = .ok (.aaload, 1) := by decide +kernel
theorem dX10_write_21 : decode cX10_write 21 = .ok (.invokevirtual 217, 3) := by decide +kernel
theorem dX10_write_24 : decode cX10_write 24 = .ok (.ifCond .eq 11, 3) := by decide +kernel
theorem dX10_write_27 : decode cX10_write 27 = .ok (.aload_n 0, 1) := by decide +kernel
theorem dX10_write_28 : decode cX10_write 28 = .ok (.ldc 221, 2) := by decide +kernel
theorem dX10_write_30 : decode cX10_write 30 = .ok (.invokevirtual 81, 3) := by decide +kernel
theorem dX10_write_33 : decode cX10_write 33 = .ok (.i2l, 1) := by decide +kernel
theorem dX10_write_34 : decode cX10_write 34 = .ok (.lreturn, 1) := by decide +kernel
theorem dX10_write_35 : decode cX10_write 35 = .ok (.iload_n 2, 1) := by decide +kernel
theorem dX10_write_36 : decode cX10_write 36 = .ok (.iconst 0, 1) := by decide +kernel
theorem dX10_write_37 : decode cX10_write 37 = .ok (.aload_n 0, 1) := by decide +kernel
theorem dX10_write_38 : decode cX10_write 38 = .ok (.getfield 64, 3) := by decide +kernel
theorem dX10_write_41 : decode cX10_write 41 = .ok (.iload_n 1, 1) := by decide +kernel
theorem dX10_write_42 : decode cX10_write 42 = .ok (.aaload, 1) := by decide +kernel
theorem dX10_write_43 : decode cX10_write 43 = .ok (.getfield 214, 3) := by decide +kernel
theorem dX10_write_46 : decode cX10_write 46 = .ok (.iconst 1, 1) := by decide +kernel
theorem dX10_write_47 : decode cX10_write 47 = .ok (.isub, 1) := by decide +kernel
theorem dX10_write_48 : decode cX10_write 48 = .ok (.invokestatic 149, 3) := by decide +kernel
theorem dX10_write_51 : decode cX10_write 51 = .ok (.ifCond .ne 11, 3) := by decide +kernel
theorem dX10_write_54 : decode cX10_write 54 = .ok (.aload_n 0, 1) := by decide +kernel
theorem dX10_write_55 : decode cX10_write 55 = .ok (.ldc 80, 2) := by decide +kernel
theorem dX10_write_57 : decode cX10_write 57 = .ok (.invokevirtual 81, 3) := by decide +kernel
theorem dX10_write_60 : decode cX10_write 60 = .ok (.i2l, 1) := by decide +kernel
theorem dX10_write_61 : decode cX10_write 61 = .ok (.lreturn, 1) := by decide +kernel
theorem dX10_write_62 : decode cX10_write 62 = .ok (.aload_n 0, 1) := by decide +kernel
theorem dX10_write_63 : decode cX10_write 63 = .ok (.getfield 64, 3) := by decide +kernel
theorem dX10_write_66 : decode cX10_write 66 = .ok (.iload_n 1, 1) := by decide +kernel
theorem dX10_write_67 : decode cX10_write 67 = .ok (.aaload, 1) := by decide +kernel
theorem dX10_write_68 : decode cX10_write 68 = .ok (.getfield 222, 3) := by decide +kernel
theorem dX10_write_71 : decode cX10_write 71 = .ok (.iload_n 2, 1) := by decide +kernel
theorem dX10_write_72 : decode cX10_write 72 = .ok (.laload, 1) := by decide +kernel
theorem dX10_write_73 : decode cX10_write 73 = .ok (.lstore 5, 2) := by decide +kernel
theorem dX10_write_75 : decode cX10_write 75 = .ok (.aload_n 0, 1) := by decide +kernel
theorem dX10_write_76 : decode cX10_write 76 = .ok (.getfield 64, 3) := by decide +kernel
theorem dX10_write_79 : decode cX10_write 79 = .ok (.iload_n 1, 1) := by decide +kernel
theorem dX10_write_80 : decode cX10_write 80 = .ok (.aaload, 1) := by decide +kernel
theorem dX10_write_81 : decode cX10_write 81 = .ok (.iload_n 2, 1) := by decide +kernel
theorem dX10_write_82 : decode cX10_write 82 = .ok (.lload_n 3, 1) := by decide +kernel
theorem dX10_write_83 : decode cX10_write 83 = .ok (.invokevirtual 226, 3) := by decide +kernel
theorem dX10_write_86 : decode cX10_write 86 = .ok (.lload 5, 2) := by decide +kernel
theorem dX10_write_88 : decode cX10_write 88 = .ok (.lreturn, 1) := by decide +kernel
theorem dX10_copy_0 : decode cX10_copy 0 = .ok (.iload_n 1, 1) := by decide +kernel
theorem dX10_copy_1 : decode cX10_copy 1 = .ok (.invokestatic 207, 3) := by decide +kernel
theorem dX10_copy_4 : decode cX10_copy 4 = .ok (.ifCond .eq 10, 3) := by decide +kernel
theorem dX10_copy_7 : decode cX10_copy 7 = .ok (.iload_n 3, 1) := by decide +kernel
theorem dX10_copy_8 : decode cX10_copy 8 = .ok (.invokestatic 207, 3) := by decide +kernel
theorem dX10_copy_11 : decode cX10_copy 11 = .ok (.ifCond .ne 10, 3) := by decide +kernel
theorem dX10_copy_14 : decode cX10_copy 14 = .ok (.aload_n 0, 1) := by decide +kernel
theorem dX10_copy_15 : decode cX10_copy 15 = .ok (.ldc 80, 2) := by decide +kernel
theorem dX10_copy_17 : decode cX10_copy 17 = .ok (.invokevirtual 81, 3) := by decide +kernel
theorem dX10_copy_20 : decode cX10_copy 20 = .ok (.ireturn, 1) := by decide +kernel
theorem dX10_copy_21 : decode cX10_copy 21 = .ok (.aload_n 0, 1) := by decide +kernel
theorem dX10_copy_22 : decode cX10_copy 22 = .ok (.getfield 64, 3) := by decide +kernel
theorem dX10_copy_25 : decode cX10_copy 25 = .ok (.iload_n 1, 1) := by decide +kernel
theorem dX10_copy_26 : decode cX10_copy 26 = .ok (.aaload, 1) := by decide +kernel
theorem dX10_copy_27 : decode cX10_copy 27 = .ok (.invokevirtual 217, 3) := by decide +kernel
theorem dX10_copy_30 : decode cX10_copy 30 = .ok (.ifCond .ne 15, 3) := by decide +kernel
theorem dX10_copy_33 : decode cX10_copy 33 = .ok (.aload_n 0, 1) := by decide +kernel
theorem dX10_copy_34 : decode cX10_copy 34 = .ok (.getfield 64, 3) := by decide +kernel
theorem dX10_copy_37 : decode cX10_copy 37 = .ok (.iload_n 3, 1) := by decide +kernel
theorem dX10_copy_38 : decode cX10_copy 38 = .ok (.aaload, 1) := by decide +kernel
theorem dX10_copy_39 : decode cX10_copy 39 = .ok (.invokevirtual 217, 3) := by decide +kernel
theorem dX10_copy_42 : decode cX10_copy 42 = .ok (.ifCond .eq 10, 3) := by decide +kernel
theorem dX10_copy_45 : decode cX10_copy 45 = .ok (.aload_n 0, 1) := by decide +kernel
theorem dX10_copy_46 : decode cX10_copy 46 = .ok (.ldc 221, 2) := by decide +kernel
theorem dX10_copy_48 : decode cX10_copy 48 = .ok (.invokevirtual 81, 3) := by decide +kernel
theorem dX10_copy_51 : decode cX10_copy 51 = .ok (.ireturn, 1) := by decide +kernel
theorem dX10_copy_52 : decode cX10_copy 52 = .ok (.aload_n 0, 1) := by decide +kernel
theorem dX10_copy_53 : decode cX10_copy 53 = .ok (.getfield 64, 3) := by decide +kernel
theorem dX10_copy_56 : decode cX10_copy 56 = .ok (.iload_n 1, 1) := by decide +kernel
theorem dX10_copy_57 : decode cX10_copy 57 = .ok (.aaload, 1) := by decide +kernel
theorem dX10_copy_58 : decode cX10_copy 58 = .ok (.getfield 230, 3) := by decide +kernel
theorem dX10_copy_61 : decode cX10_copy 61 = .ok (.aload_n 0, 1) := by decide +kernel
theorem dX10_copy_62 : decode cX10_copy 62 = .ok (.getfield 64, 3) := by decide +kernel
theorem dX10_copy_65 : decode cX10_copy 65 = .ok (.iload_n 3, 1) := by decide +kernel
theorem dX10_copy_66 : decode cX10_copy 66 = .ok (.aaload, 1) := by decide +kernel
theorem dX10_copy_67 : decode cX10_copy 67 = .ok (.getfield 230, 3) := by decide +kernel
theorem dX10_copy_70 : decode cX10_copy 70 = .ok (.if_icmp .eq 10, 3) := by decide +kernel
theorem dX10_copy_73 : decode cX10_copy 73 = .ok (.aload_n 0, 1) := by decide +kernel
theorem dX10_copy_74 : decode cX10_copy 74 = .ok (.ldc 141, 2) := by decide +kernel
theorem dX10_copy_76 : decode cX10_copy 76 = .ok (.invokevirtual 81, 3) := by decide +kernel
theorem dX10_copy_79 : decode cX10_copy 79 = .ok (.ireturn, 1) := by decide +kernel
theorem dX10_copy_80 : decode cX10_copy 80 = .ok (.aload_n 0, 1) := by decide +kernel
theorem dX10_copy_81 : decode cX10_copy 81 = .ok (.getfield 64, 3) := by decide +kernel
theorem dX10_copy_84 : decode cX10_copy 84 = .ok (.iload_n 1, 1) := by decide +kernel
theorem dX10_copy_85 : decode cX10_copy 85 = .ok (.aaload, 1) := by decide +kernel
theorem dX10_copy_86 : decode cX10_copy 86 = .ok (.iload_n 2, 1) := by decide +kernel
theorem dX10_copy_87 : decode cX10_copy 87 = .ok (.iload 5, 2) := by decide +kernel
theorem dX10_copy_89 : decode cX10_copy 89 = .ok (.invokevirtual 233, 3) := by decide +kernel
theorem dX10_copy_92 : decode cX10_copy 92 = .ok (.ifCond .eq 19, 3) := by decide +kernel
theorem dX10_copy_95 : decode cX10_copy 95 = .ok (.aload_n 0, 1) := by decide +kernel
theorem dX10_copy_96 : decode cX10_copy 96 = .ok (.getfield 64, 3) := by decide +kernel
theorem dX10_copy_99 : decode cX10_copy 99 = .ok (.iload_n 3, 1) := by decide +kernel
theorem dX10_copy_100 : decode cX10_copy 100 = .ok (.aaload, 1) := by decide +kernel
theorem dX10_copy_101 : decode cX10_copy 101 = .ok (.iload 4, 2) := by decide +kernel
theorem dX10_copy_103 : decode cX10_copy 103 = .ok (.iload 5, 2) := by decide +kernel
theorem dX10_copy_105 : decode cX10_copy 105 = .ok (.invokevirtual 233, 3) := by decide +kernel
theorem dX10_copy_108 : decode cX10_copy 108 = .ok (.ifCond .ne 10, 3) := by decide +kernel
theorem dX10_copy_111 : decode cX10_copy 111 = .ok (.aload_n 0, 1) := by decide +kernel
theorem dX10_copy_112 : decode cX10_copy 112 = .ok (.ldc 80, 2) := by decide +kernel
theorem dX10_copy_114 : decode cX10_copy 114 = .ok (.invokevirtual 81, 3) := by decide +kernel
theorem dX10_copy_117 : decode cX10_copy 117 = .ok (.ireturn, 1) := by decide +kernel
theorem dX10_copy_118 : decode cX10_copy 118 = .ok (.aload_n 0, 1) := by decide +kernel
theorem dX10_copy_119 : decode cX10_copy 119 = .ok (.getfield 64, 3) := by decide +kernel
theorem dX10_copy_122 : decode cX10_copy 122 = .ok (.iload_n 1, 1) := by decide +kernel
theorem dX10_copy_123 : decode cX10_copy 123 = .ok (.aaload, 1) := by decide +kernel
theorem dX10_copy_124 : decode cX10_copy 124 = .ok (.getfield 222, 3) := by decide +kernel
theorem dX10_copy_127 : decode cX10_copy 127 = .ok (.iload_n 2, 1) := by decide +kernel
theorem dX10_copy_128 : decode cX10_copy 128 = .ok (.aload_n 0, 1) := by decide +kernel
theorem dX10_copy_129 : decode cX10_copy 129 = .ok (.getfield 64, 3) := by decide +kernel
theorem dX10_copy_132 : decode cX10_copy 132 = .ok (.iload_n 3, 1) := by decide +kernel
theorem dX10_copy_133 : decode cX10_copy 133 = .ok (.aaload, 1) := by decide +kernel
theorem dX10_copy_134 : decode cX10_copy 134 = .ok (.getfield 222, 3) := by decide +kernel
theorem dX10_copy_137 : decode cX10_copy 137 = .ok (.iload 4, 2) := by decide +kernel
theorem dX10_copy_139 : decode cX10_copy 139 = .ok (.iload 5, 2) := by decide +kernel
theorem dX10_copy_141 : decode cX10_copy 141 = .ok (.invokestatic 236, 3) := by decide +kernel
theorem dX10_copy_144 : decode cX10_copy 144 = .ok (.iload 5, 2) := by decide +kernel
theorem dX10_copy_146 : decode cX10_copy 146 = .ok (.ireturn, 1) := by decide +kernel
theorem dX10_lays_0 : decode cX10_lays 0 = .ok (.iload_n 1, 1) := by decide +kernel
theorem dX10_lays_1 : decode cX10_lays 1 = .ok (.invokestatic 207, 3) := by decide +kernel
theorem dX10_lays_4 : decode cX10_lays 4 = .ok (.ifCond .ne 10, 3) := by decide +kernel
theorem dX10_lays_7 : decode cX10_lays 7 = .ok (.aload_n 0, 1) := by decide +kernel
theorem dX10_lays_8 : decode cX10_lays 8 = .ok (.ldc 80, 2) := by decide +kernel
theorem dX10_lays_10 : decode cX10_lays 10 = .ok (.invokevirtual 81, 3) := by decide +kernel
theorem dX10_lays_13 : decode cX10_lays 13 = .ok (.ireturn, 1) := by decide +kernel
theorem dX10_lays_14 : decode cX10_lays 14 = .ok (.aload_n 0, 1) := by decide +kernel
theorem dX10_lays_15 : decode cX10_lays 15 = .ok (.getfield 64, 3) := by decide +kernel
theorem dX10_lays_18 : decode cX10_lays 18 = .ok (.iload_n 1, 1) := by decide +kernel
theorem dX10_lays_19 : decode cX10_lays 19 = .ok (.aaload, 1) := by decide +kernel
theorem dX10_lays_20 : decode cX10_lays 20 = .ok (.invokevirtual 217, 3) := by decide +kernel
theorem dX10_lays_23 : decode cX10_lays 23 = .ok (.ifCond .eq 10, 3) := by decide +kernel
theorem dX10_lays_26 : decode cX10_lays 26 = .ok (.aload_n 0, 1) := by decide +kernel
theorem dX10_lays_27 : decode cX10_lays 27 = .ok (.ldc 221, 2) := by decide +kernel
theorem dX10_lays_29 : decode cX10_lays 29 = .ok (.invokevirtual 81, 3) := by decide +kernel
theorem dX10_lays_32 : decode cX10_lays 32 = .ok (.ireturn, 1) := by decide +kernel
theorem dX10_lays_33 : decode cX10_lays 33 = .ok (.iconst 0, 1) := by decide +kernel
theorem dX10_lays_34 : decode cX10_lays 34 = .ok (.istore_n 2, 1) := by decide +kernel
theorem dX10_lays_35 : decode cX10_lays 35 = .ok (.iconst 0, 1) := by decide +kernel
theorem dX10_lays_36 : decode cX10_lays 36 = .ok (.istore_n 3, 1) := by decide +kernel
theorem dX10_lays_37 : decode cX10_lays 37 = .ok (.iload_n 3, 1) := by decide +kernel
theorem dX10_lays_38 : decode cX10_lays 38 = .ok (.aload_n 0, 1) := by decide +kernel
theorem dX10_lays_39 : decode cX10_lays 39 = .ok (.getfield 64, 3) := by decide +kernel
theorem dX10_lays_42 : decode cX10_lays 42 = .ok (.iload_n 1, 1) := by decide +kernel
theorem dX10_lays_43 : decode cX10_lays 43 = .ok (.aaload, 1) := by decide +kernel
theorem dX10_lays_44 : decode cX10_lays 44 = .ok (.getfield 214, 3) := by decide +kernel
theorem dX10_lays_47 : decode cX10_lays 47 = .ok (.if_icmp .ge 59, 3) := by decide +kernel
theorem dX10_lays_50 : decode cX10_lays 50 = .ok (.iload_n 3, 1) := by decide +kernel
theorem dX10_lays_51 : decode cX10_lays 51 = .ok (.bipush 16, 2) := by decide +kernel
theorem dX10_lays_53 : decode cX10_lays 53 = .ok (.if_icmp .ge 53, 3) := by decide +kernel
theorem dX10_lays_56 : decode cX10_lays 56 = .ok (.aload_n 0, 1) := by decide +kernel
theorem dX10_lays_57 : decode cX10_lays 57 = .ok (.getfield 64, 3) := by decide +kernel
theorem dX10_lays_60 : decode cX10_lays 60 = .ok (.iload_n 1, 1) := by decide +kernel
theorem dX10_lays_61 : decode cX10_lays 61 = .ok (.aaload, 1) := by decide +kernel
theorem dX10_lays_62 : decode cX10_lays 62 = .ok (.getfield 222, 3) := by decide +kernel
theorem dX10_lays_65 : decode cX10_lays 65 = .ok (.iload_n 3, 1) := by decide +kernel
theorem dX10_lays_66 : decode cX10_lays 66 = .ok (.laload, 1) := by decide +kernel
theorem dX10_lays_67 : decode cX10_lays 67 = .ok (.lstore 4, 2) := by decide +kernel
theorem dX10_lays_69 : decode cX10_lays 69 = .ok (.lload 4, 2) := by decide +kernel
theorem dX10_lays_71 : decode cX10_lays 71 = .ok (.lconst 0, 1) := by decide +kernel
theorem dX10_lays_72 : decode cX10_lays 72 = .ok (.lcmp, 1) := by decide +kernel
theorem dX10_lays_73 : decode cX10_lays 73 = .ok (.ifCond .lt 27, 3) := by decide +kernel
theorem dX10_lays_76 : decode cX10_lays 76 = .ok (.lload 4, 2) := by decide +kernel
theorem dX10_lays_78 : decode cX10_lays 78 = .ok (.ldc2_w 242, 3) := by decide +kernel
theorem dX10_lays_81 : decode cX10_lays 81 = .ok (.lcmp, 1) := by decide +kernel
theorem dX10_lays_82 : decode cX10_lays 82 = .ok (.ifCond .gt 18, 3) := by decide +kernel
theorem dX10_lays_85 : decode cX10_lays 85 = .ok (.aload_n 0, 1) := by decide +kernel
theorem dX10_lays_86 : decode cX10_lays 86 = .ok (.getfield 30, 3) := by decide +kernel
theorem dX10_lays_89 : decode cX10_lays 89 = .ok (.getfield 85, 3) := by decide +kernel
theorem dX10_lays_92 : decode cX10_lays 92 = .ok (.iload_n 3, 1) := by decide +kernel
theorem dX10_lays_93 : decode cX10_lays 93 = .ok (.lload 4, 2) := by decide +kernel
theorem dX10_lays_95 : decode cX10_lays 95 = .ok (.l2i, 1) := by decide +kernel
theorem dX10_lays_96 : decode cX10_lays 96 = .ok (.iastore, 1) := by decide +kernel
theorem dX10_lays_97 : decode cX10_lays 97 = .ok (.iinc 2 1, 3) := by decide +kernel
theorem dX10_lays_100 : decode cX10_lays 100 = .ok (.iinc 3 1, 3) := by decide +kernel
theorem dX10_lays_103 : decode cX10_lays 103 = .ok (.goto (-66), 3) := by decide +kernel
theorem dX10_lays_106 : decode cX10_lays 106 = .ok (.iload_n 2, 1) := by decide +kernel
theorem dX10_lays_107 : decode cX10_lays 107 = .ok (.ireturn, 1) := by decide +kernel
theorem dX10_book_0 : decode cX10_book 0 = .ok (.iload_n 1, 1) := by decide +kernel
theorem dX10_book_1 : decode cX10_book 1 = .ok (.invokestatic 207, 3) := by decide +kernel
theorem dX10_book_4 : decode cX10_book 4 = .ok (.ifCond .ne 10, 3) := by decide +kernel
theorem dX10_book_7 : decode cX10_book 7 = .ok (.aload_n 0, 1) := by decide +kernel
theorem dX10_book_8 : decode cX10_book 8 = .ok (.ldc 80, 2) := by decide +kernel
theorem dX10_book_10 : decode cX10_book 10 = .ok (.invokevirtual 81, 3) := by decide +kernel
theorem dX10_book_13 : decode cX10_book 13 = .ok (.ireturn, 1) := by decide +kernel
theorem dX10_book_14 : decode cX10_book 14 = .ok (.aload_n 0, 1) := by decide +kernel
theorem dX10_book_15 : decode cX10_book 15 = .ok (.getfield 64, 3) := by decide +kernel
theorem dX10_book_18 : decode cX10_book 18 = .ok (.iload_n 1, 1) := by decide +kernel
theorem dX10_book_19 : decode cX10_book 19 = .ok (.aaload, 1) := by decide +kernel
theorem dX10_book_20 : decode cX10_book 20 = .ok (.invokevirtual 217, 3) := by decide +kernel
theorem dX10_book_23 : decode cX10_book 23 = .ok (.ifCond .eq 10, 3) := by decide +kernel
theorem dX10_book_26 : decode cX10_book 26 = .ok (.aload_n 0, 1) := by decide +kernel
theorem dX10_book_27 : decode cX10_book 27 = .ok (.ldc 221, 2) := by decide +kernel
theorem dX10_book_29 : decode cX10_book 29 = .ok (.invokevirtual 81, 3) := by decide +kernel
theorem dX10_book_32 : decode cX10_book 32 = .ok (.ireturn, 1) := by decide +kernel
theorem dX10_book_33 : decode cX10_book 33 = .ok (.aload_n 0, 1) := by decide +kernel
theorem dX10_book_34 : decode cX10_book 34 = .ok (.iload_n 2, 1) := by decide +kernel
theorem dX10_book_35 : decode cX10_book 35 = .ok (.invokevirtual 103, 3) := by decide +kernel
theorem dX10_book_38 : decode cX10_book 38 = .ok (.ifCond .ne 10, 3) := by decide +kernel
theorem dX10_book_41 : decode cX10_book 41 = .ok (.aload_n 0, 1) := by decide +kernel
theorem dX10_book_42 : decode cX10_book 42 = .ok (.ldc 80, 2) := by decide +kernel
theorem dX10_book_44 : decode cX10_book 44 = .ok (.invokevirtual 81, 3) := by decide +kernel
theorem dX10_book_47 : decode cX10_book 47 = .ok (.ireturn, 1) := by decide +kernel
theorem dX10_book_48 : decode cX10_book 48 = .ok (.aload_n 0, 1) := by decide +kernel
theorem dX10_book_49 : decode cX10_book 49 = .ok (.getfield 36, 3) := by decide +kernel
theorem dX10_book_52 : decode cX10_book 52 = .ok (.aload_n 0, 1) := by decide +kernel
theorem dX10_book_53 : decode cX10_book 53 = .ok (.getfield 30, 3) := by decide +kernel
theorem dX10_book_56 : decode cX10_book 56 = .ok (.invokevirtual 176, 3) := by decide +kernel
theorem dX10_book_59 : decode cX10_book 59 = .ok (.iconst 0, 1) := by decide +kernel
theorem dX10_book_60 : decode cX10_book 60 = .ok (.istore_n 3, 1) := by decide +kernel
theorem dX10_book_61 : decode cX10_book 61 = .ok (.iload_n 3, 1) := by decide +kernel
theorem dX10_book_62 : decode cX10_book 62 = .ok (.aload_n 0, 1) := by decide +kernel
theorem dX10_book_63 : decode cX10_book 63 = .ok (.getfield 64, 3) := by decide +kernel
theorem dX10_book_66 : decode cX10_book 66 = .ok (.iload_n 1, 1) := by decide +kernel
theorem dX10_book_67 : decode cX10_book 67 = .ok (.aaload, 1) := by decide +kernel
theorem dX10_book_68 : decode cX10_book 68 = .ok (.getfield 214, 3) := by decide +kernel
theorem dX10_book_71 : decode cX10_book 71 = .ok (.if_icmp .ge 40, 3) := by decide +kernel
theorem dX10_book_74 : decode cX10_book 74 = .ok (.aload_n 0, 1) := by decide +kernel
theorem dX10_book_75 : decode cX10_book 75 = .ok (.getfield 64, 3) := by decide +kernel
theorem dX10_book_78 : decode cX10_book 78 = .ok (.iload_n 1, 1) := by decide +kernel
theorem dX10_book_79 : decode cX10_book 79 = .ok (.aaload, 1) := by decide +kernel
theorem dX10_book_80 : decode cX10_book 80 = .ok (.iload_n 3, 1) := by decide +kernel
theorem dX10_book_81 : decode cX10_book 81 = .ok (.aload_n 0, 1) := by decide +kernel
theorem dX10_book_82 : decode cX10_book 82 = .ok (.getfield 36, 3) := by decide +kernel
theorem dX10_book_85 : decode cX10_book 85 = .ok (.getfield 112, 3) := by decide +kernel
theorem dX10_book_88 : decode cX10_book 88 = .ok (.iload_n 2, 1) := by decide +kernel
theorem dX10_book_89 : decode cX10_book 89 = .ok (.iaload, 1) := by decide +kernel
theorem dX10_book_90 : decode cX10_book 90 = .ok (.invokestatic 188, 3) := by decide +kernel
theorem dX10_book_93 : decode cX10_book 93 = .ok (.i2l, 1) := by decide +kernel
theorem dX10_book_94 : decode cX10_book 94 = .ok (.invokevirtual 226, 3) := by decide +kernel
theorem dX10_book_97 : decode cX10_book 97 = .ok (.aload_n 0, 1) := by decide +kernel
theorem dX10_book_98 : decode cX10_book 98 = .ok (.getfield 36, 3) := by decide +kernel
theorem dX10_book_101 : decode cX10_book 101 = .ok (.iconst 1, 1) := by decide +kernel
theorem dX10_book_102 : decode cX10_book 102 = .ok (.invokevirtual 156, 3) := by decide +kernel
theorem dX10_book_105 : decode cX10_book 105 = .ok (.iinc 3 1, 3) := by decide +kernel
theorem dX10_book_108 : decode cX10_book 108 = .ok (.goto (-47), 3) := by decide +kernel
theorem dX10_book_111 : decode cX10_book 111 = .ok (.aload_n 0, 1) := by decide +kernel
theorem dX10_book_112 : decode cX10_book 112 = .ok (.getfield 64, 3) := by decide +kernel
theorem dX10_book_115 : decode cX10_book 115 = .ok (.iload_n 1, 1) := by decide +kernel
theorem dX10_book_116 : decode cX10_book 116 = .ok (.aaload, 1) := by decide +kernel
theorem dX10_book_117 : decode cX10_book 117 = .ok (.getfield 214, 3) := by decide +kernel
theorem dX10_book_120 : decode cX10_book 120 = .ok (.ireturn, 1) := by decide +kernel
theorem dX10_read_0 : decode cX10_read 0 = .ok (.iload_n 1, 1) := by decide +kernel
theorem dX10_read_1 : decode cX10_read 1 = .ok (.invokestatic 207, 3) := by decide +kernel
theorem dX10_read_4 : decode cX10_read 4 = .ok (.ifCond .ne 10, 3) := by decide +kernel
theorem dX10_read_7 : decode cX10_read 7 = .ok (.aload_n 0, 1) := by decide +kernel
theorem dX10_read_8 : decode cX10_read 8 = .ok (.ldc 80, 2) := by decide +kernel
theorem dX10_read_10 : decode cX10_read 10 = .ok (.invokevirtual 81, 3) := by decide +kernel
theorem dX10_read_13 : decode cX10_read 13 = .ok (.ireturn, 1) := by decide +kernel
theorem dX10_read_14 : decode cX10_read 14 = .ok (.aload_n 0, 1) := by decide +kernel
theorem dX10_read_15 : decode cX10_read 15 = .ok (.getfield 64, 3) := by decide +kernel
theorem dX10_read_18 : decode cX10_read 18 = .ok (.iload_n 1, 1) := by decide +kernel
theorem dX10_read_19 : decode cX10_read 19 = .ok (.aaload, 1) := by decide +kernel
theorem dX10_read_20 : decode cX10_read 20 = .ok (.invokevirtual 217, 3) := by decide +kernel
theorem dX10_read_23 : decode cX10_read 23 = .ok (.ifCond .eq 10, 3) := by decide +kernel
theorem dX10_read_26 : decode cX10_read 26 = .ok (.aload_n 0, 1) := by decide +kernel
theorem dX10_read_27 : decode cX10_read 27 = .ok (.ldc 221, 2) := by decide +kernel
theorem dX10_read_29 : decode cX10_read 29 = .ok (.invokevirtual 81, 3) := by decide +kernel
theorem dX10_read_32 : decode cX10_read 32 = .ok (.ireturn, 1) := by decide +kernel
theorem dX10_read_33 : decode cX10_read 33 = .ok (.aload_n 0, 1) := by decide +kernel
theorem dX10_read_34 : decode cX10_read 34 = .ok (.iload_n 2, 1) := by decide +kernel
theorem dX10_read_35 : decode cX10_read 35 = .ok (.invokevirtual 103, 3) := by decide +kernel
theorem dX10_read_38 : decode cX10_read 38 = .ok (.ifCond .ne 10, 3) := by decide +kernel
theorem dX10_read_41 : decode cX10_read 41 = .ok (.aload_n 0, 1) := by decide +kernel
theorem dX10_read_42 : decode cX10_read 42 = .ok (.ldc 80, 2) := by decide +kernel
theorem dX10_read_44 : decode cX10_read 44 = .ok (.invokevirtual 81, 3) := by decide +kernel
theorem dX10_read_47 : decode cX10_read 47 = .ok (.ireturn, 1) := by decide +kernel
theorem dX10_read_48 : decode cX10_read 48 = .ok (.iconst 0, 1) := by decide +kernel
theorem dX10_read_49 : decode cX10_read 49 = .ok (.istore_n 3, 1) := by decide +kernel
theorem dX10_read_50 : decode cX10_read 50 = .ok (.iconst 0, 1) := by decide +kernel
theorem dX10_read_51 : decode cX10_read 51 = .ok (.istore 4, 2) := by decide +kernel
theorem dX10_read_53 : decode cX10_read 53 = .ok (.iload 4, 2) := by decide +kernel
theorem dX10_read_55 : decode cX10_read 55 = .ok (.bipush 6, 2) := by decide +kernel
theorem dX10_read_57 : decode cX10_read 57 = .ok (.if_icmp .ge 46, 3) := by decide +kernel
theorem dX10_read_60 : decode cX10_read 60 = .ok (.iconst 0, 1) := by decide +kernel
theorem dX10_read_61 : decode cX10_read 61 = .ok (.istore 5, 2) := by decide +kernel
theorem dX10_read_63 : decode cX10_read 63 = .ok (.iload 5, 2) := by decide +kernel
theorem dX10_read_65 : decode cX10_read 65 = .ok (.bipush 70, 2) := by decide +kernel
theorem dX10_read_67 : decode cX10_read 67 = .ok (.if_icmp .gt 30, 3) := by decide +kernel
theorem dX10_read_70 : decode cX10_read 70 = .ok (.aload_n 0, 1) := by decide +kernel
theorem dX10_read_71 : decode cX10_read 71 = .ok (.aload_n 0, 1) := by decide +kernel
theorem dX10_read_72 : decode cX10_read 72 = .ok (.getfield 64, 3) := by decide +kernel
theorem dX10_read_75 : decode cX10_read 75 = .ok (.iload_n 1, 1) := by decide +kernel
theorem dX10_read_76 : decode cX10_read 76 = .ok (.aaload, 1) := by decide +kernel
theorem dX10_read_77 : decode cX10_read 77 = .ok (.iload_n 2, 1) := by decide +kernel
theorem dX10_read_78 : decode cX10_read 78 = .ok (.iload 4, 2) := by decide +kernel
theorem dX10_read_80 : decode cX10_read 80 = .ok (.iload 5, 2) := by decide +kernel
theorem dX10_read_82 : decode cX10_read 82 = .ok (.invokevirtual 244, 3) := by decide +kernel
theorem dX10_read_85 : decode cX10_read 85 = .ok (.ifCond .eq 6, 3) := by decide +kernel
theorem dX10_read_88 : decode cX10_read 88 = .ok (.iinc 3 1, 3) := by decide +kernel
theorem dX10_read_91 : decode cX10_read 91 = .ok (.iinc 5 1, 3) := by decide +kernel
theorem dX10_read_94 : decode cX10_read 94 = .ok (.goto (-31), 3) := by decide +kernel
theorem dX10_read_97 : decode cX10_read 97 = .ok (.iinc 4 1, 3) := by decide +kernel
theorem dX10_read_100 : decode cX10_read 100 = .ok (.goto (-47), 3) := by decide +kernel
theorem dX10_read_103 : decode cX10_read 103 = .ok (.iload_n 3, 1) := by decide +kernel
theorem dX10_read_104 : decode cX10_read 104 = .ok (.ireturn, 1) := by decide +kernel
theorem dX10_image_0 : decode cX10_image 0 = .ok (.aload_n 0, 1) := by decide +kernel
theorem dX10_image_1 : decode cX10_image 1 = .ok (.getfield 39, 3) := by decide +kernel
theorem dX10_image_4 : decode cX10_image 4 = .ok (.aload_n 0, 1) := by decide +kernel
theorem dX10_image_5 : decode cX10_image 5 = .ok (.getfield 30, 3) := by decide +kernel
theorem dX10_image_8 : decode cX10_image 8 = .ok (.invokevirtual 176, 3) := by decide +kernel
theorem dX10_image_11 : decode cX10_image 11 = .ok (.aload_n 0, 1) := by decide +kernel
theorem dX10_image_12 : decode cX10_image 12 = .ok (.iconst 1, 1) := by decide +kernel
theorem dX10_image_13 : decode cX10_image 13 = .ok (.putfield 42, 3) := by decide +kernel
theorem dX10_image_16 : decode cX10_image 16 = .ok (.iconst 1, 1) := by decide +kernel
theorem dX10_image_17 : decode cX10_image 17 = .ok (.ireturn, 1) := by decide +kernel
theorem dX10_undo_0 : decode cX10_undo 0 = .ok (.aload_n 0, 1) := by decide +kernel
theorem dX10_undo_1 : decode cX10_undo 1 = .ok (.getfield 42, 3) := by decide +kernel
theorem dX10_undo_4 : decode cX10_undo 4 = .ok (.ifCond .ne 10, 3) := by decide +kernel
theorem dX10_undo_7 : decode cX10_undo 7 = .ok (.aload_n 0, 1) := by decide +kernel
theorem dX10_undo_8 : decode cX10_undo 8 = .ok (.ldc 187, 2) := by decide +kernel
theorem dX10_undo_10 : decode cX10_undo 10 = .ok (.invokevirtual 81, 3) := by decide +kernel
theorem dX10_undo_13 : decode cX10_undo 13 = .ok (.ireturn, 1) := by decide +kernel
theorem dX10_undo_14 : decode cX10_undo 14 = .ok (.aload_n 0, 1) := by decide +kernel
theorem dX10_undo_15 : decode cX10_undo 15 = .ok (.getfield 30, 3) := by decide +kernel
theorem dX10_undo_18 : decode cX10_undo 18 = .ok (.aload_n 0, 1) := by decide +kernel
theorem dX10_undo_19 : decode cX10_undo 19 = .ok (.getfield 39, 3) := by decide +kernel
theorem dX10_undo_22 : decode cX10_undo 22 = .ok (.invokevirtual 176, 3) := by decide +kernel
theorem dX10_undo_25 : decode cX10_undo 25 = .ok (.aload_n 0, 1) := by decide +kernel
theorem dX10_undo_26 : decode cX10_undo 26 = .ok (.getfield 30, 3) := by decide +kernel
theorem dX10_undo_29 : decode cX10_undo 29 = .ok (.getfield 88, 3) := by decide +kernel
theorem dX10_undo_32 : decode cX10_undo 32 = .ok (.ireturn, 1) := by decide +kernel
theorem dX10_tear_0 : decode cX10_tear 0 = .ok (.aload_n 0, 1) := by decide +kernel
theorem dX10_tear_1 : decode cX10_tear 1 = .ok (.getfield 42, 3) := by decide +kernel
theorem dX10_tear_4 : decode cX10_tear 4 = .ok (.ifCond .eq 7, 3) := by decide +kernel
theorem dX10_tear_7 : decode cX10_tear 7 = .ok (.iconst 1, 1) := by decide +kernel
theorem dX10_tear_8 : decode cX10_tear 8 = .ok (.goto 4, 3) := by decide +kernel
theorem dX10_tear_11 : decode cX10_tear 11 = .ok (.iconst 0, 1) := by decide +kernel
theorem dX10_tear_12 : decode cX10_tear 12 = .ok (.istore_n 1, 1) := by decide +kernel
theorem dX10_tear_13 : decode cX10_tear 13 = .ok (.aload_n 0, 1) := by decide +kernel
theorem dX10_tear_14 : decode cX10_tear 14 = .ok (.iconst 0, 1) := by decide +kernel
theorem dX10_tear_15 : decode cX10_tear 15 = .ok (.putfield 42, 3) := by decide +kernel
theorem dX10_tear_18 : decode cX10_tear 18 = .ok (.iload_n 1, 1) := by decide +kernel
theorem dX10_tear_19 : decode cX10_tear 19 = .ok (.ireturn, 1) := by decide +kernel
theorem dX10_count_0 : decode cX10_count 0 = .ok (.iload_n 1, 1) := by decide +kernel
theorem dX10_count_1 : decode cX10_count 1 = .ok (.tableswitch 63 0 3 #[31, 39, 47, 55], 31) := by decide +kernel
theorem dX10_count_32 : decode cX10_count 32 = .ok (.aload_n 0, 1) := by decide +kernel
theorem dX10_count_33 : decode cX10_count 33 = .ok (.getfield 30, 3) := by decide +kernel
theorem dX10_count_36 : decode cX10_count 36 = .ok (.getfield 88, 3) := by decide +kernel
theorem dX10_count_39 : decode cX10_count 39 = .ok (.ireturn, 1) := by decide +kernel
theorem dX10_count_40 : decode cX10_count 40 = .ok (.aload_n 0, 1) := by decide +kernel
theorem dX10_count_41 : decode cX10_count 41 = .ok (.getfield 49, 3) := by decide +kernel
theorem dX10_count_44 : decode cX10_count 44 = .ok (.getfield 198, 3) := by decide +kernel
theorem dX10_count_47 : decode cX10_count 47 = .ok (.ireturn, 1) := by decide +kernel
theorem dX10_count_48 : decode cX10_count 48 = .ok (.aload_n 0, 1) := by decide +kernel
theorem dX10_count_49 : decode cX10_count 49 = .ok (.getfield 30, 3) := by decide +kernel
theorem dX10_count_52 : decode cX10_count 52 = .ok (.invokevirtual 248, 3) := by decide +kernel
theorem dX10_count_55 : decode cX10_count 55 = .ok (.ireturn, 1) := by decide +kernel
theorem dX10_count_56 : decode cX10_count 56 = .ok (.aload_n 0, 1) := by decide +kernel
theorem dX10_count_57 : decode cX10_count 57 = .ok (.getfield 30, 3) := by decide +kernel
theorem dX10_count_60 : decode cX10_count 60 = .ok (.invokevirtual 251, 3) := by decide +kernel
theorem dX10_count_63 : decode cX10_count 63 = .ok (.ireturn, 1) := by decide +kernel
theorem dX10_count_64 : decode cX10_count 64 = .ok (.aload_n 0, 1) := by decide +kernel
theorem dX10_count_65 : decode cX10_count 65 = .ok (.ldc 80, 2) := by decide +kernel
theorem dX10_count_67 : decode cX10_count 67 = .ok (.invokevirtual 81, 3) := by decide +kernel
theorem dX10_count_70 : decode cX10_count 70 = .ok (.ireturn, 1) := by decide +kernel
theorem dX10_status_0 : decode cX10_status 0 = .ok (.iload_n 1, 1) := by decide +kernel
theorem dX10_status_1 : decode cX10_status 1 = .ok (.iconst (-1), 1) := by decide +kernel
theorem dX10_status_2 : decode cX10_status 2 = .ok (.bipush 6, 2) := by decide +kernel
theorem dX10_status_4 : decode cX10_status 4 = .ok (.invokestatic 149, 3) := by decide +kernel
theorem dX10_status_7 : decode cX10_status 7 = .ok (.ifCond .ne 10, 3) := by decide +kernel
theorem dX10_status_10 : decode cX10_status 10 = .ok (.aload_n 0, 1) := by decide +kernel
theorem dX10_status_11 : decode cX10_status 11 = .ok (.ldc 80, 2) := by decide +kernel
theorem dX10_status_13 : decode cX10_status 13 = .ok (.invokevirtual 81, 3) := by decide +kernel
theorem dX10_status_16 : decode cX10_status 16 = .ok (.ireturn, 1) := by decide +kernel
theorem dX10_status_17 : decode cX10_status 17 = .ok (.iload_n 1, 1) := by decide +kernel
theorem dX10_status_18 : decode cX10_status 18 = .ok (.ifCond .lt 10, 3) := by decide +kernel
theorem dX10_status_21 : decode cX10_status 21 = .ok (.aload_n 0, 1) := by decide +kernel
theorem dX10_status_22 : decode cX10_status 22 = .ok (.getfield 69, 3) := by decide +kernel
theorem dX10_status_25 : decode cX10_status 25 = .ok (.iload_n 1, 1) := by decide +kernel
theorem dX10_status_26 : decode cX10_status 26 = .ok (.iaload, 1) := by decide +kernel
theorem dX10_status_27 : decode cX10_status 27 = .ok (.ireturn, 1) := by decide +kernel
theorem dX10_status_28 : decode cX10_status 28 = .ok (.iconst 0, 1) := by decide +kernel
theorem dX10_status_29 : decode cX10_status 29 = .ok (.istore_n 2, 1) := by decide +kernel
theorem dX10_status_30 : decode cX10_status 30 = .ok (.iconst 0, 1) := by decide +kernel
theorem dX10_status_31 : decode cX10_status 31 = .ok (.istore_n 3, 1) := by decide +kernel
theorem dX10_status_32 : decode cX10_status 32 = .ok (.iload_n 3, 1) := by decide +kernel
theorem dX10_status_33 : decode cX10_status 33 = .ok (.bipush 7, 2) := by decide +kernel
theorem dX10_status_35 : decode cX10_status 35 = .ok (.if_icmp .ge 18, 3) := by decide +kernel
theorem dX10_status_38 : decode cX10_status 38 = .ok (.iload_n 2, 1) := by decide +kernel
theorem dX10_status_39 : decode cX10_status 39 = .ok (.aload_n 0, 1) := by decide +kernel
theorem dX10_status_40 : decode cX10_status 40 = .ok (.getfield 69, 3) := by decide +kernel
theorem dX10_status_43 : decode cX10_status 43 = .ok (.iload_n 3, 1) := by decide +kernel
theorem dX10_status_44 : decode cX10_status 44 = .ok (.iaload, 1) := by decide +kernel
theorem dX10_status_45 : decode cX10_status 45 = .ok (.iadd, 1) := by decide +kernel
theorem dX10_status_46 : decode cX10_status 46 = .ok (.istore_n 2, 1) := by decide +kernel
theorem dX10_status_47 : decode cX10_status 47 = .ok (.iinc 3 1, 3) := by decide +kernel
theorem dX10_status_50 : decode cX10_status 50 = .ok (.goto (-18), 3) := by decide +kernel
theorem dX10_status_53 : decode cX10_status 53 = .ok (.iload_n 2, 1) := by decide +kernel
theorem dX10_status_54 : decode cX10_status 54 = .ok (.ireturn, 1) := by decide +kernel
theorem dX10_found_0 : decode cX10_found 0 = .ok (.aload_n 0, 1) := by decide +kernel
theorem dX10_found_1 : decode cX10_found 1 = .ok (.getfield 69, 3) := by decide +kernel
theorem dX10_found_4 : decode cX10_found 4 = .ok (.ldc 80, 2) := by decide +kernel
theorem dX10_found_6 : decode cX10_found 6 = .ok (.iload_n 1, 1) := by decide +kernel
theorem dX10_found_7 : decode cX10_found 7 = .ok (.isub, 1) := by decide +kernel
theorem dX10_found_8 : decode cX10_found 8 = .ok (.dup2, 1) := by decide +kernel
theorem dX10_found_9 : decode cX10_found 9 = .ok (.iaload, 1) := by decide +kernel
theorem dX10_found_10 : decode cX10_found 10 = .ok (.iconst 1, 1) := by decide +kernel
theorem dX10_found_11 : decode cX10_found 11 = .ok (.iadd, 1) := by decide +kernel
theorem dX10_found_12 : decode cX10_found 12 = .ok (.iastore, 1) := by decide +kernel
theorem dX10_found_13 : decode cX10_found 13 = .ok (.iload_n 1, 1) := by decide +kernel
theorem dX10_found_14 : decode cX10_found 14 = .ok (.ireturn, 1) := by decide +kernel
theorem dX10_isPerson_0 : decode cX10_isPerson 0 = .ok (.iload_n 1, 1) := by decide +kernel
theorem dX10_isPerson_1 : decode cX10_isPerson 1 = .ok (.iconst 0, 1) := by decide +kernel
theorem dX10_isPerson_2 : decode cX10_isPerson 2 = .ok (.aload_n 0, 1) := by decide +kernel
theorem dX10_isPerson_3 : decode cX10_isPerson 3 = .ok (.getfield 30, 3) := by decide +kernel
theorem dX10_isPerson_6 : decode cX10_isPerson 6 = .ok (.getfield 88, 3) := by decide +kernel
theorem dX10_isPerson_9 : decode cX10_isPerson 9 = .ok (.iconst 1, 1) := by decide +kernel
theorem dX10_isPerson_10 : decode cX10_isPerson 10 = .ok (.isub, 1) := by decide +kernel
theorem dX10_isPerson_11 : decode cX10_isPerson 11 = .ok (.invokestatic 149, 3) := by decide +kernel
theorem dX10_isPerson_14 : decode cX10_isPerson 14 = .ok (.ireturn, 1) := by decide +kernel
theorem dX10_replace_0 : decode cX10_replace 0 = .ok (.iload_n 3, 1) := by decide +kernel
theorem dX10_replace_1 : decode cX10_replace 1 = .ok (.iload 4, 2) := by decide +kernel
theorem dX10_replace_3 : decode cX10_replace 3 = .ok (.iload 5, 2) := by decide +kernel
theorem dX10_replace_5 : decode cX10_replace 5 = .ok (.invokestatic 149, 3) := by decide +kernel
theorem dX10_replace_8 : decode cX10_replace 8 = .ok (.ifCond .ne 10, 3) := by decide +kernel
theorem dX10_replace_11 : decode cX10_replace 11 = .ok (.aload_n 0, 1) := by decide +kernel
theorem dX10_replace_12 : decode cX10_replace 12 = .ok (.ldc 80, 2) := by decide +kernel
theorem dX10_replace_14 : decode cX10_replace 14 = .ok (.invokevirtual 81, 3) := by decide +kernel
theorem dX10_replace_17 : decode cX10_replace 17 = .ok (.ireturn, 1) := by decide +kernel
theorem dX10_replace_18 : decode cX10_replace 18 = .ok (.aload_n 1, 1) := by decide +kernel
theorem dX10_replace_19 : decode cX10_replace 19 = .ok (.iload_n 2, 1) := by decide +kernel
theorem dX10_replace_20 : decode cX10_replace 20 = .ok (.iaload, 1) := by decide +kernel
theorem dX10_replace_21 : decode cX10_replace 21 = .ok (.istore 6, 2) := by decide +kernel
theorem dX10_replace_23 : decode cX10_replace 23 = .ok (.aload_n 1, 1) := by decide +kernel
theorem dX10_replace_24 : decode cX10_replace 24 = .ok (.iload_n 2, 1) := by decide +kernel
theorem dX10_replace_25 : decode cX10_replace 25 = .ok (.iload_n 3, 1) := by decide +kernel
theorem dX10_replace_26 : decode cX10_replace 26 = .ok (.iastore, 1) := by decide +kernel
theorem dX10_replace_27 : decode cX10_replace 27 = .ok (.iload 6, 2) := by decide +kernel
theorem dX10_replace_29 : decode cX10_replace 29 = .ok (.ireturn, 1) := by decide +kernel
theorem dX10_firstYear_0 : decode cX10_firstYear 0 = .ok (.aload_n 0, 1) := by decide +kernel
theorem dX10_firstYear_1 : decode cX10_firstYear 1 = .ok (.getfield 36, 3) := by decide +kernel
theorem dX10_firstYear_4 : decode cX10_firstYear 4 = .ok (.aload_n 0, 1) := by decide +kernel
theorem dX10_firstYear_5 : decode cX10_firstYear 5 = .ok (.getfield 30, 3) := by decide +kernel
theorem dX10_firstYear_8 : decode cX10_firstYear 8 = .ok (.invokevirtual 176, 3) := by decide +kernel
theorem dX10_firstYear_11 : decode cX10_firstYear 11 = .ok (.iconst 0, 1) := by decide +kernel
theorem dX10_firstYear_12 : decode cX10_firstYear 12 = .ok (.istore 4, 2) := by decide +kernel
theorem dX10_firstYear_14 : decode cX10_firstYear 14 = .ok (.iload 4, 2) := by decide +kernel
theorem dX10_firstYear_16 : decode cX10_firstYear 16 = .ok (.bipush 80, 2) := by decide +kernel
theorem dX10_firstYear_18 : decode cX10_firstYear 18 = .ok (.if_icmp .gt 33, 3) := by decide +kernel
theorem dX10_firstYear_21 : decode cX10_firstYear 21 = .ok (.aload_n 0, 1) := by decide +kernel
theorem dX10_firstYear_22 : decode cX10_firstYear 22 = .ok (.getfield 36, 3) := by decide +kernel
theorem dX10_firstYear_25 : decode cX10_firstYear 25 = .ok (.iload_n 1, 1) := by decide +kernel
theorem dX10_firstYear_26 : decode cX10_firstYear 26 = .ok (.iload_n 2, 1) := by decide +kernel
theorem dX10_firstYear_27 : decode cX10_firstYear 27 = .ok (.invokevirtual 92, 3) := by decide +kernel
theorem dX10_firstYear_30 : decode cX10_firstYear 30 = .ok (.iload_n 3, 1) := by decide +kernel
theorem dX10_firstYear_31 : decode cX10_firstYear 31 = .ok (.if_icmp .ne 6, 3) := by decide +kernel
theorem dX10_firstYear_34 : decode cX10_firstYear 34 = .ok (.iload 4, 2) := by decide +kernel
theorem dX10_firstYear_36 : decode cX10_firstYear 36 = .ok (.ireturn, 1) := by decide +kernel
theorem dX10_firstYear_37 : decode cX10_firstYear 37 = .ok (.aload_n 0, 1) := by decide +kernel
theorem dX10_firstYear_38 : decode cX10_firstYear 38 = .ok (.getfield 36, 3) := by decide +kernel
theorem dX10_firstYear_41 : decode cX10_firstYear 41 = .ok (.iconst 1, 1) := by decide +kernel
theorem dX10_firstYear_42 : decode cX10_firstYear 42 = .ok (.invokevirtual 156, 3) := by decide +kernel
theorem dX10_firstYear_45 : decode cX10_firstYear 45 = .ok (.iinc 4 1, 3) := by decide +kernel
theorem dX10_firstYear_48 : decode cX10_firstYear 48 = .ok (.goto (-34), 3) := by decide +kernel
theorem dX10_firstYear_51 : decode cX10_firstYear 51 = .ok (.aload_n 0, 1) := by decide +kernel
theorem dX10_firstYear_52 : decode cX10_firstYear 52 = .ok (.ldc 187, 2) := by decide +kernel
theorem dX10_firstYear_54 : decode cX10_firstYear 54 = .ok (.invokevirtual 81, 3) := by decide +kernel
theorem dX10_firstYear_57 : decode cX10_firstYear 57 = .ok (.ireturn, 1) := by decide +kernel
theorem dX10_staysWithout_0 : decode cX10_staysWithout 0 = .ok (.aload_n 0, 1) := by decide +kernel
theorem dX10_staysWithout_1 : decode cX10_staysWithout 1 = .ok (.getfield 36, 3) := by decide +kernel
theorem dX10_staysWithout_4 : decode cX10_staysWithout 4 = .ok (.aload_n 0, 1) := by decide +kernel
theorem dX10_staysWithout_5 : decode cX10_staysWithout 5 = .ok (.getfield 30, 3) := by decide +kernel
theorem dX10_staysWithout_8 : decode cX10_staysWithout 8 = .ok (.invokevirtual 176, 3) := by decide +kernel
theorem dX10_staysWithout_11 : decode cX10_staysWithout 11 = .ok (.aload_n 0, 1) := by decide +kernel
theorem dX10_staysWithout_12 : decode cX10_staysWithout 12 = .ok (.getfield 36, 3) := by decide +kernel
theorem dX10_staysWithout_15 : decode cX10_staysWithout 15 = .ok (.getfield 112, 3) := by decide +kernel
theorem dX10_staysWithout_18 : decode cX10_staysWithout 18 = .ok (.iload_n 1, 1) := by decide +kernel
theorem dX10_staysWithout_19 : decode cX10_staysWithout 19 = .ok (.dup2, 1) := by decide +kernel
theorem dX10_staysWithout_20 : decode cX10_staysWithout 20 = .ok (.iaload, 1) := by decide +kernel
theorem dX10_staysWithout_21 : decode cX10_staysWithout 21 = .ok (.iload 4, 2) := by decide +kernel
theorem dX10_staysWithout_23 : decode cX10_staysWithout 23 = .ok (.iconst (-1), 1) := by decide +kernel
theorem dX10_staysWithout_24 : decode cX10_staysWithout 24 = .ok (.ixor, 1) := by decide +kernel
theorem dX10_staysWithout_25 : decode cX10_staysWithout 25 = .ok (.iand, 1) := by decide +kernel
theorem dX10_staysWithout_26 : decode cX10_staysWithout 26 = .ok (.iastore, 1) := by decide +kernel
theorem dX10_staysWithout_27 : decode cX10_staysWithout 27 = .ok (.aload_n 0, 1) := by decide +kernel
theorem dX10_staysWithout_28 : decode cX10_staysWithout 28 = .ok (.getfield 36, 3) := by decide +kernel
theorem dX10_staysWithout_31 : decode cX10_staysWithout 31 = .ok (.iload_n 3, 1) := by decide +kernel
theorem dX10_staysWithout_32 : decode cX10_staysWithout 32 = .ok (.invokevirtual 156, 3) := by decide +kernel
theorem dX10_staysWithout_35 : decode cX10_staysWithout 35 = .ok (.aload_n 0, 1) := by decide +kernel
theorem dX10_staysWithout_36 : decode cX10_staysWithout 36 = .ok (.getfield 36, 3) := by decide +kernel
theorem dX10_staysWithout_39 : decode cX10_staysWithout 39 = .ok (.iload_n 1, 1) := by decide +kernel
theorem dX10_staysWithout_40 : decode cX10_staysWithout 40 = .ok (.iload_n 2, 1) := by decide +kernel
theorem dX10_staysWithout_41 : decode cX10_staysWithout 41 = .ok (.invokevirtual 92, 3) := by decide +kernel
theorem dX10_staysWithout_44 : decode cX10_staysWithout 44 = .ok (.ireturn, 1) := by decide +kernel
theorem dX10_makes_0 : decode cX10_makes 0 = .ok (.aload_n 0, 1) := by decide +kernel
theorem dX10_makes_1 : decode cX10_makes 1 = .ok (.getfield 36, 3) := by decide +kernel
theorem dX10_makes_4 : decode cX10_makes 4 = .ok (.aload_n 0, 1) := by decide +kernel
theorem dX10_makes_5 : decode cX10_makes 5 = .ok (.getfield 30, 3) := by decide +kernel
theorem dX10_makes_8 : decode cX10_makes 8 = .ok (.invokevirtual 176, 3) := by decide +kernel
theorem dX10_makes_11 : decode cX10_makes 11 = .ok (.aload_n 0, 1) := by decide +kernel
theorem dX10_makes_12 : decode cX10_makes 12 = .ok (.getfield 36, 3) := by decide +kernel
theorem dX10_makes_15 : decode cX10_makes 15 = .ok (.getfield 106, 3) := by decide +kernel
theorem dX10_makes_18 : decode cX10_makes 18 = .ok (.iload_n 2, 1) := by decide +kernel
theorem dX10_makes_19 : decode cX10_makes 19 = .ok (.iload_n 3, 1) := by decide +kernel
theorem dX10_makes_20 : decode cX10_makes 20 = .ok (.iastore, 1) := by decide +kernel
theorem dX10_makes_21 : decode cX10_makes 21 = .ok (.aload_n 0, 1) := by decide +kernel
theorem dX10_makes_22 : decode cX10_makes 22 = .ok (.getfield 36, 3) := by decide +kernel
theorem dX10_makes_25 : decode cX10_makes 25 = .ok (.getfield 109, 3) := by decide +kernel
theorem dX10_makes_28 : decode cX10_makes 28 = .ok (.iload_n 2, 1) := by decide +kernel
theorem dX10_makes_29 : decode cX10_makes 29 = .ok (.iload 4, 2) := by decide +kernel
theorem dX10_makes_31 : decode cX10_makes 31 = .ok (.iastore, 1) := by decide +kernel
theorem dX10_makes_32 : decode cX10_makes 32 = .ok (.iconst 0, 1) := by decide +kernel
theorem dX10_makes_33 : decode cX10_makes 33 = .ok (.istore 5, 2) := by decide +kernel
theorem dX10_makes_35 : decode cX10_makes 35 = .ok (.iload 5, 2) := by decide +kernel
theorem dX10_makes_37 : decode cX10_makes 37 = .ok (.aload_n 1, 1) := by decide +kernel
theorem dX10_makes_38 : decode cX10_makes 38 = .ok (.getfield 214, 3) := by decide +kernel
theorem dX10_makes_41 : decode cX10_makes 41 = .ok (.if_icmp .ge 43, 3) := by decide +kernel
theorem dX10_makes_44 : decode cX10_makes 44 = .ok (.aload_n 1, 1) := by decide +kernel
theorem dX10_makes_45 : decode cX10_makes 45 = .ok (.getfield 222, 3) := by decide +kernel
theorem dX10_makes_48 : decode cX10_makes 48 = .ok (.iload 5, 2) := by decide +kernel
theorem dX10_makes_50 : decode cX10_makes 50 = .ok (.laload, 1) := by decide +kernel
theorem dX10_makes_51 : decode cX10_makes 51 = .ok (.aload_n 0, 1) := by decide +kernel
theorem dX10_makes_52 : decode cX10_makes 52 = .ok (.getfield 36, 3) := by decide +kernel
theorem dX10_makes_55 : decode cX10_makes 55 = .ok (.getfield 112, 3) := by decide +kernel
theorem dX10_makes_58 : decode cX10_makes 58 = .ok (.iload_n 2, 1) := by decide +kernel
theorem dX10_makes_59 : decode cX10_makes 59 = .ok (.iaload, 1) := by decide +kernel
theorem dX10_makes_60 : decode cX10_makes 60 = .ok (.invokestatic 188, 3) := by decide +kernel
theorem dX10_makes_63 : decode cX10_makes 63 = .ok (.i2l, 1) := by decide +kernel
theorem dX10_makes_64 : decode cX10_makes 64 = .ok (.lcmp, 1) := by decide +kernel
theorem dX10_makes_65 : decode cX10_makes 65 = .ok (.ifCond .eq 5, 3) := by decide +kernel
theorem dX10_makes_68 : decode cX10_makes 68 = .ok (.iconst 0, 1) := by decide +kernel
theorem dX10_makes_69 : decode cX10_makes 69 = .ok (.ireturn, 1) := by decide +kernel
theorem dX10_makes_70 : decode cX10_makes 70 = .ok (.aload_n 0, 1) := by decide +kernel
theorem dX10_makes_71 : decode cX10_makes 71 = .ok (.getfield 36, 3) := by decide +kernel
theorem dX10_makes_74 : decode cX10_makes 74 = .ok (.iconst 1, 1) := by decide +kernel
theorem dX10_makes_75 : decode cX10_makes 75 = .ok (.invokevirtual 156, 3) := by decide +kernel
theorem dX10_makes_78 : decode cX10_makes 78 = .ok (.iinc 5 1, 3) := by decide +kernel
theorem dX10_makes_81 : decode cX10_makes 81 = .ok (.goto (-46), 3) := by decide +kernel
theorem dX10_makes_84 : decode cX10_makes 84 = .ok (.iconst 1, 1) := by decide +kernel
theorem dX10_makes_85 : decode cX10_makes 85 = .ok (.ireturn, 1) := by decide +kernel
theorem dX10_isWithin_0 : decode cX10_isWithin 0 = .ok (.iload_n 0, 1) := by decide +kernel
theorem dX10_isWithin_1 : decode cX10_isWithin 1 = .ok (.iload_n 1, 1) := by decide +kernel
theorem dX10_isWithin_2 : decode cX10_isWithin 2 = .ok (.if_icmp .lt 12, 3) := by decide +kernel
theorem dX10_isWithin_5 : decode cX10_isWithin 5 = .ok (.iload_n 0, 1) := by decide +kernel
theorem dX10_isWithin_6 : decode cX10_isWithin 6 = .ok (.iload_n 2, 1) := by decide +kernel
theorem dX10_isWithin_7 : decode cX10_isWithin 7 = .ok (.if_icmp .gt 7, 3) := by decide +kernel
theorem dX10_isWithin_10 : decode cX10_isWithin 10 = .ok (.iconst 1, 1) := by decide +kernel
theorem dX10_isWithin_11 : decode cX10_isWithin 11 = .ok (.goto 4, 3) := by decide +kernel
theorem dX10_isWithin_14 : decode cX10_isWithin 14 = .ok (.iconst 0, 1) := by decide +kernel
theorem dX10_isWithin_15 : decode cX10_isWithin 15 = .ok (.ireturn, 1) := by decide +kernel
theorem dX10_isThing_0 : decode cX10_isThing 0 = .ok (.iload_n 0, 1) := by decide +kernel
theorem dX10_isThing_1 : decode cX10_isThing 1 = .ok (.iconst 0, 1) := by decide +kernel
theorem dX10_isThing_2 : decode cX10_isThing 2 = .ok (.bipush 15, 2) := by decide +kernel
theorem dX10_isThing_4 : decode cX10_isThing 4 = .ok (.invokestatic 149, 3) := by decide +kernel
theorem dX10_isThing_7 : decode cX10_isThing 7 = .ok (.ireturn, 1) := by decide +kernel
theorem dX10_isWorth_0 : decode cX10_isWorth 0 = .ok (.iload_n 0, 1) := by decide +kernel
theorem dX10_isWorth_1 : decode cX10_isWorth 1 = .ok (.iconst 0, 1) := by decide +kernel
theorem dX10_isWorth_2 : decode cX10_isWorth 2 = .ok (.bipush 99, 2) := by decide +kernel
theorem dX10_isWorth_4 : decode cX10_isWorth 4 = .ok (.invokestatic 149, 3) := by decide +kernel
theorem dX10_isWorth_7 : decode cX10_isWorth 7 = .ok (.ireturn, 1) := by decide +kernel
theorem dX10_isKind_0 : decode cX10_isKind 0 = .ok (.iload_n 0, 1) := by decide +kernel
theorem dX10_isKind_1 : decode cX10_isKind 1 = .ok (.iconst 0, 1) := by decide +kernel
theorem dX10_isKind_2 : decode cX10_isKind 2 = .ok (.iconst 5, 1) := by decide +kernel
theorem dX10_isKind_3 : decode cX10_isKind 3 = .ok (.invokestatic 149, 3) := by decide +kernel
theorem dX10_isKind_6 : decode cX10_isKind 6 = .ok (.ireturn, 1) := by decide +kernel
theorem dX10_isSheet_0 : decode cX10_isSheet 0 = .ok (.iload_n 0, 1) := by decide +kernel
theorem dX10_isSheet_1 : decode cX10_isSheet 1 = .ok (.iconst 0, 1) := by decide +kernel
theorem dX10_isSheet_2 : decode cX10_isSheet 2 = .ok (.iconst 3, 1) := by decide +kernel
theorem dX10_isSheet_3 : decode cX10_isSheet 3 = .ok (.invokestatic 149, 3) := by decide +kernel
theorem dX10_isSheet_6 : decode cX10_isSheet 6 = .ok (.ireturn, 1) := by decide +kernel
theorem dX10_isUnder_0 : decode cX10_isUnder 0 = .ok (.iload_n 0, 1) := by decide +kernel
theorem dX10_isUnder_1 : decode cX10_isUnder 1 = .ok (.istore_n 2, 1) := by decide +kernel
theorem dX10_isUnder_2 : decode cX10_isUnder 2 = .ok (.iconst 0, 1) := by decide +kernel
theorem dX10_isUnder_3 : decode cX10_isUnder 3 = .ok (.istore_n 3, 1) := by decide +kernel
theorem dX10_isUnder_4 : decode cX10_isUnder 4 = .ok (.iload_n 3, 1) := by decide +kernel
theorem dX10_isUnder_5 : decode cX10_isUnder 5 = .ok (.bipush 6, 2) := by decide +kernel
theorem dX10_isUnder_7 : decode cX10_isUnder 7 = .ok (.if_icmp .ge 26, 3) := by decide +kernel
theorem dX10_isUnder_10 : decode cX10_isUnder 10 = .ok (.iload_n 2, 1) := by decide +kernel
theorem dX10_isUnder_11 : decode cX10_isUnder 11 = .ok (.ifCond .lt 22, 3) := by decide +kernel
theorem dX10_isUnder_14 : decode cX10_isUnder 14 = .ok (.iload_n 2, 1) := by decide +kernel
theorem dX10_isUnder_15 : decode cX10_isUnder 15 = .ok (.iload_n 1, 1) := by decide +kernel
theorem dX10_isUnder_16 : decode cX10_isUnder 16 = .ok (.if_icmp .ne 5, 3) := by decide +kernel
theorem dX10_isUnder_19 : decode cX10_isUnder 19 = .ok (.iconst 1, 1) := by decide +kernel
theorem dX10_isUnder_20 : decode cX10_isUnder 20 = .ok (.ireturn, 1) := by decide +kernel
theorem dX10_isUnder_21 : decode cX10_isUnder 21 = .ok (.getstatic 254, 3) := by decide +kernel
theorem dX10_isUnder_24 : decode cX10_isUnder 24 = .ok (.iload_n 2, 1) := by decide +kernel
theorem dX10_isUnder_25 : decode cX10_isUnder 25 = .ok (.iaload, 1) := by decide +kernel
theorem dX10_isUnder_26 : decode cX10_isUnder 26 = .ok (.istore_n 2, 1) := by decide +kernel
theorem dX10_isUnder_27 : decode cX10_isUnder 27 = .ok (.iinc 3 1, 3) := by decide +kernel
theorem dX10_isUnder_30 : decode cX10_isUnder 30 = .ok (.goto (-26), 3) := by decide +kernel
theorem dX10_isUnder_33 : decode cX10_isUnder 33 = .ok (.iconst 0, 1) := by decide +kernel
theorem dX10_isUnder_34 : decode cX10_isUnder 34 = .ok (.ireturn, 1) := by decide +kernel
theorem dX10_setOf_0 : decode cX10_setOf 0 = .ok (.iload_n 0, 1) := by decide +kernel
theorem dX10_setOf_1 : decode cX10_setOf 1 = .ok (.ifCond .ge 7, 3) := by decide +kernel
theorem dX10_setOf_4 : decode cX10_setOf 4 = .ok (.iconst 0, 1) := by decide +kernel
theorem dX10_setOf_5 : decode cX10_setOf 5 = .ok (.goto 6, 3) := by decide +kernel
theorem dX10_setOf_8 : decode cX10_setOf 8 = .ok (.iconst 1, 1) := by decide +kernel
theorem dX10_setOf_9 : decode cX10_setOf 9 = .ok (.iload_n 0, 1) := by decide +kernel
theorem dX10_setOf_10 : decode cX10_setOf 10 = .ok (.ishl, 1) := by decide +kernel
theorem dX10_setOf_11 : decode cX10_setOf 11 = .ok (.ireturn, 1) := by decide +kernel
theorem dX10_contains_0 : decode cX10_contains 0 = .ok (.iload_n 0, 1) := by decide +kernel
theorem dX10_contains_1 : decode cX10_contains 1 = .ok (.iconst 1, 1) := by decide +kernel
theorem dX10_contains_2 : decode cX10_contains 2 = .ok (.iload_n 1, 1) := by decide +kernel
theorem dX10_contains_3 : decode cX10_contains 3 = .ok (.ishl, 1) := by decide +kernel
theorem dX10_contains_4 : decode cX10_contains 4 = .ok (.iand, 1) := by decide +kernel
theorem dX10_contains_5 : decode cX10_contains 5 = .ok (.ifCond .eq 7, 3) := by decide +kernel
theorem dX10_contains_8 : decode cX10_contains 8 = .ok (.iconst 1, 1) := by decide +kernel
theorem dX10_contains_9 : decode cX10_contains 9 = .ok (.goto 4, 3) := by decide +kernel
theorem dX10_contains_12 : decode cX10_contains 12 = .ok (.iconst 0, 1) := by decide +kernel
theorem dX10_contains_13 : decode cX10_contains 13 = .ok (.ireturn, 1) := by decide +kernel
theorem dX10_bestIn_0 : decode cX10_bestIn 0 = .ok (.iconst (-1), 1) := by decide +kernel
theorem dX10_bestIn_1 : decode cX10_bestIn 1 = .ok (.istore_n 2, 1) := by decide +kernel
theorem dX10_bestIn_2 : decode cX10_bestIn 2 = .ok (.iconst 0, 1) := by decide +kernel
theorem dX10_bestIn_3 : decode cX10_bestIn 3 = .ok (.istore_n 3, 1) := by decide +kernel
theorem dX10_bestIn_4 : decode cX10_bestIn 4 = .ok (.iload_n 3, 1) := by decide +kernel
theorem dX10_bestIn_5 : decode cX10_bestIn 5 = .ok (.bipush 16, 2) := by decide +kernel
theorem dX10_bestIn_7 : decode cX10_bestIn 7 = .ok (.if_icmp .ge 32, 3) := by decide +kernel
theorem dX10_bestIn_10 : decode cX10_bestIn 10 = .ok (.iload_n 0, 1) := by decide +kernel
theorem dX10_bestIn_11 : decode cX10_bestIn 11 = .ok (.iconst 1, 1) := by decide +kernel
theorem dX10_bestIn_12 : decode cX10_bestIn 12 = .ok (.iload_n 3, 1) := by decide +kernel
theorem dX10_bestIn_13 : decode cX10_bestIn 13 = .ok (.ishl, 1) := by decide +kernel
theorem dX10_bestIn_14 : decode cX10_bestIn 14 = .ok (.iand, 1) := by decide +kernel
theorem dX10_bestIn_15 : decode cX10_bestIn 15 = .ok (.ifCond .eq 18, 3) := by decide +kernel
theorem dX10_bestIn_18 : decode cX10_bestIn 18 = .ok (.iload_n 2, 1) := by decide +kernel
theorem dX10_bestIn_19 : decode cX10_bestIn 19 = .ok (.ifCond .lt 12, 3) := by decide +kernel
theorem dX10_bestIn_22 : decode cX10_bestIn 22 = .ok (.aload_n 1, 1) := by decide +kernel
theorem dX10_bestIn_23 : decode cX10_bestIn 23 = .ok (.iload_n 3, 1) := by decide +kernel
theorem dX10_bestIn_24 : decode cX10_bestIn 24 = .ok (.iaload, 1) := by decide +kernel
theorem dX10_bestIn_25 : decode cX10_bestIn 25 = .ok (.aload_n 1, 1) := by decide +kernel
theorem dX10_bestIn_26 : decode cX10_bestIn 26 = .ok (.iload_n 2, 1) := by decide +kernel
theorem dX10_bestIn_27 : decode cX10_bestIn 27 = .ok (.iaload, 1) := by decide +kernel
theorem dX10_bestIn_28 : decode cX10_bestIn 28 = .ok (.if_icmp .le 5, 3) := by decide +kernel
theorem dX10_bestIn_31 : decode cX10_bestIn 31 = .ok (.iload_n 3, 1) := by decide +kernel
theorem dX10_bestIn_32 : decode cX10_bestIn 32 = .ok (.istore_n 2, 1) := by decide +kernel
theorem dX10_bestIn_33 : decode cX10_bestIn 33 = .ok (.iinc 3 1, 3) := by decide +kernel
theorem dX10_bestIn_36 : decode cX10_bestIn 36 = .ok (.goto (-32), 3) := by decide +kernel
theorem dX10_bestIn_39 : decode cX10_bestIn 39 = .ok (.iload_n 2, 1) := by decide +kernel
theorem dX10_bestIn_40 : decode cX10_bestIn 40 = .ok (.ireturn, 1) := by decide +kernel
theorem dX10_worstIn_0 : decode cX10_worstIn 0 = .ok (.iconst (-1), 1) := by decide +kernel
theorem dX10_worstIn_1 : decode cX10_worstIn 1 = .ok (.istore_n 2, 1) := by decide +kernel
theorem dX10_worstIn_2 : decode cX10_worstIn 2 = .ok (.iconst 0, 1) := by decide +kernel
theorem dX10_worstIn_3 : decode cX10_worstIn 3 = .ok (.istore_n 3, 1) := by decide +kernel
theorem dX10_worstIn_4 : decode cX10_worstIn 4 = .ok (.iload_n 3, 1) := by decide +kernel
theorem dX10_worstIn_5 : decode cX10_worstIn 5 = .ok (.bipush 16, 2) := by decide +kernel
theorem dX10_worstIn_7 : decode cX10_worstIn 7 = .ok (.if_icmp .ge 32, 3) := by decide +kernel
theorem dX10_worstIn_10 : decode cX10_worstIn 10 = .ok (.iload_n 0, 1) := by decide +kernel
theorem dX10_worstIn_11 : decode cX10_worstIn 11 = .ok (.iconst 1, 1) := by decide +kernel
theorem dX10_worstIn_12 : decode cX10_worstIn 12 = .ok (.iload_n 3, 1) := by decide +kernel
theorem dX10_worstIn_13 : decode cX10_worstIn 13 = .ok (.ishl, 1) := by decide +kernel
theorem dX10_worstIn_14 : decode cX10_worstIn 14 = .ok (.iand, 1) := by decide +kernel
theorem dX10_worstIn_15 : decode cX10_worstIn 15 = .ok (.ifCond .eq 18, 3) := by decide +kernel
theorem dX10_worstIn_18 : decode cX10_worstIn 18 = .ok (.iload_n 2, 1) := by decide +kernel
theorem dX10_worstIn_19 : decode cX10_worstIn 19 = .ok (.ifCond .lt 12, 3) := by decide +kernel
theorem dX10_worstIn_22 : decode cX10_worstIn 22 = .ok (.aload_n 1, 1) := by decide +kernel
theorem dX10_worstIn_23 : decode cX10_worstIn 23 = .ok (.iload_n 3, 1) := by decide +kernel
theorem dX10_worstIn_24 : decode cX10_worstIn 24 = .ok (.iaload, 1) := by decide +kernel
theorem dX10_worstIn_25 : decode cX10_worstIn 25 = .ok (.aload_n 1, 1) := by decide +kernel
theorem dX10_worstIn_26 : decode cX10_worstIn 26 = .ok (.iload_n 2, 1) := by decide +kernel
theorem dX10_worstIn_27 : decode cX10_worstIn 27 = .ok (.iaload, 1) := by decide +kernel
theorem dX10_worstIn_28 : decode cX10_worstIn 28 = .ok (.if_icmp .ge 5, 3) := by decide +kernel
theorem dX10_worstIn_31 : decode cX10_worstIn 31 = .ok (.iload_n 3, 1) := by decide +kernel
theorem dX10_worstIn_32 : decode cX10_worstIn 32 = .ok (.istore_n 2, 1) := by decide +kernel
theorem dX10_worstIn_33 : decode cX10_worstIn 33 = .ok (.iinc 3 1, 3) := by decide +kernel
theorem dX10_worstIn_36 : decode cX10_worstIn 36 = .ok (.goto (-32), 3) := by decide +kernel
theorem dX10_worstIn_39 : decode cX10_worstIn 39 = .ok (.iload_n 2, 1) := by decide +kernel
theorem dX10_worstIn_40 : decode cX10_worstIn 40 = .ok (.ireturn, 1) := by decide +kernel
theorem dX10_greatestIn_0 : decode cX10_greatestIn 0 = .ok (.bipush 15, 2) := by decide +kernel
theorem dX10_greatestIn_2 : decode cX10_greatestIn 2 = .ok (.istore_n 1, 1) := by decide +kernel
theorem dX10_greatestIn_3 : decode cX10_greatestIn 3 = .ok (.iload_n 1, 1) := by decide +kernel
theorem dX10_greatestIn_4 : decode cX10_greatestIn 4 = .ok (.ifCond .lt 19, 3) := by decide +kernel
theorem dX10_greatestIn_7 : decode cX10_greatestIn 7 = .ok (.iload_n 0, 1) := by decide +kernel
theorem dX10_greatestIn_8 : decode cX10_greatestIn 8 = .ok (.iconst 1, 1) := by decide +kernel
theorem dX10_greatestIn_9 : decode cX10_greatestIn 9 = .ok (.iload_n 1, 1) := by decide +kernel
theorem dX10_greatestIn_10 : decode cX10_greatestIn 10 = .ok (.ishl, 1) := by decide +kernel
theorem dX10_greatestIn_11 : decode cX10_greatestIn 11 = .ok (.iand, 1) := by decide +kernel
theorem dX10_greatestIn_12 : decode cX10_greatestIn 12 = .ok (.ifCond .eq 5, 3) := by decide +kernel
theorem dX10_greatestIn_15 : decode cX10_greatestIn 15 = .ok (.iload_n 1, 1) := by decide +kernel
theorem dX10_greatestIn_16 : decode cX10_greatestIn 16 = .ok (.ireturn, 1) := by decide +kernel
theorem dX10_greatestIn_17 : decode cX10_greatestIn 17 = .ok (.iinc 1 (-1), 3) := by decide +kernel
theorem dX10_greatestIn_20 : decode cX10_greatestIn 20 = .ok (.goto (-17), 3) := by decide +kernel
theorem dX10_greatestIn_23 : decode cX10_greatestIn 23 = .ok (.iconst (-1), 1) := by decide +kernel
theorem dX10_greatestIn_24 : decode cX10_greatestIn 24 = .ok (.ireturn, 1) := by decide +kernel
