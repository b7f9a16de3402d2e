theorem dX11_init_0 : decode cX11_init 0 = .ok (.aload_n 0, 1) := by decide +kernel
theorem dX11_init_1 : decode cX11_init 1 = .ok (.invokespecial 1, 3) := by decide +kernel
theorem dX11_init_4 : decode cX11_init 4 = .ok (.aload_n 0, 1) := by decide +kernel
theorem dX11_init_5 : decode cX11_init 5 = .ok (.bipush 59, 2) := by decide +kernel
theorem dX11_init_7 : decode cX11_init 7 = .ok (.newarray .int, 2) := by decide +kernel
theorem dX11_init_9 : decode cX11_init 9 = .ok (.putfield 7, 3) := by decide +kernel
theorem dX11_init_12 : decode cX11_init 12 = .ok (.aload_n 0, 1) := by decide +kernel
theorem dX11_init_13 : decode cX11_init 13 = .ok (.bipush 7, 2) := by decide +kernel
theorem dX11_init_15 : decode cX11_init 15 = .ok (.newarray .int, 2) := by decide +kernel
theorem dX11_init_17 : decode cX11_init 17 = .ok (.putfield 13, 3) := by decide +kernel
theorem dX11_init_20 : decode cX11_init 20 = .ok (.aload_n 0, 1) := by decide +kernel
theorem dX11_init_21 : decode cX11_init 21 = .ok (.bipush 59, 2) := by decide +kernel
theorem dX11_init_23 : decode cX11_init 23 = .ok (.newarray .int, 2) := by decide +kernel
theorem dX11_init_25 : decode cX11_init 25 = .ok (.putfield 16, 3) := by decide +kernel
theorem dX11_init_28 : decode cX11_init 28 = .ok (.aload_n 0, 1) := by decide +kernel
theorem dX11_init_29 : decode cX11_init 29 = .ok (.bipush 59, 2) := by decide +kernel
theorem dX11_init_31 : decode cX11_init 31 = .ok (.newarray .int, 2) := by decide +kernel
theorem dX11_init_33 : decode cX11_init 33 = .ok (.putfield 19, 3) := by decide +kernel
theorem dX11_init_36 : decode cX11_init 36 = .ok (.aload_n 0, 1) := by decide +kernel
theorem dX11_init_37 : decode cX11_init 37 = .ok (.bipush 120, 2) := by decide +kernel
theorem dX11_init_39 : decode cX11_init 39 = .ok (.newarray .int, 2) := by decide +kernel
theorem dX11_init_41 : decode cX11_init 41 = .ok (.putfield 22, 3) := by decide +kernel
theorem dX11_init_44 : decode cX11_init 44 = .ok (.aload_n 0, 1) := by decide +kernel
theorem dX11_init_45 : decode cX11_init 45 = .ok (.iconst 4, 1) := by decide +kernel
theorem dX11_init_46 : decode cX11_init 46 = .ok (.newarray .int, 2) := by decide +kernel
theorem dX11_init_48 : decode cX11_init 48 = .ok (.putfield 25, 3) := by decide +kernel
theorem dX11_init_51 : decode cX11_init 51 = .ok (.aload_n 0, 1) := by decide +kernel
theorem dX11_init_52 : decode cX11_init 52 = .ok (.iconst 4, 1) := by decide +kernel
theorem dX11_init_53 : decode cX11_init 53 = .ok (.newarray .int, 2) := by decide +kernel
theorem dX11_init_55 : decode cX11_init 55 = .ok (.putfield 28, 3) := by decide +kernel
theorem dX11_init_58 : decode cX11_init 58 = .ok (.aload_n 0, 1) := by decide +kernel
theorem dX11_init_59 : decode cX11_init 59 = .ok (.sipush 160, 3) := by decide +kernel
theorem dX11_init_62 : decode cX11_init 62 = .ok (.newarray .long, 2) := by decide +kernel
theorem dX11_init_64 : decode cX11_init 64 = .ok (.putfield 31, 3) := by decide +kernel
theorem dX11_init_67 : decode cX11_init 67 = .ok (.aload_n 0, 1) := by decide +kernel
theorem dX11_init_68 : decode cX11_init 68 = .ok (.bipush 40, 2) := by decide +kernel
theorem dX11_init_70 : decode cX11_init 70 = .ok (.newarray .long, 2) := by decide +kernel
theorem dX11_init_72 : decode cX11_init 72 = .ok (.putfield 35, 3) := by decide +kernel
theorem dX11_init_75 : decode cX11_init 75 = .ok (.aload_n 0, 1) := by decide +kernel
theorem dX11_init_76 : decode cX11_init 76 = .ok (.bipush 59, 2) := by decide +kernel
theorem dX11_init_78 : decode cX11_init 78 = .ok (.newarray .int, 2) := by decide +kernel
theorem dX11_init_80 : decode cX11_init 80 = .ok (.putfield 38, 3) := by decide +kernel
theorem dX11_init_83 : decode cX11_init 83 = .ok (.aload_n 0, 1) := by decide +kernel
theorem dX11_init_84 : decode cX11_init 84 = .ok (.bipush 59, 2) := by decide +kernel
theorem dX11_init_86 : decode cX11_init 86 = .ok (.newarray .int, 2) := by decide +kernel
theorem dX11_init_88 : decode cX11_init 88 = .ok (.putfield 41, 3) := by decide +kernel
theorem dX11_init_91 : decode cX11_init 91 = .ok (.iconst 0, 1) := by decide +kernel
theorem dX11_init_92 : decode cX11_init 92 = .ok (.istore_n 1, 1) := by decide +kernel
theorem dX11_init_93 : decode cX11_init 93 = .ok (.iload_n 1, 1) := by decide +kernel
theorem dX11_init_94 : decode cX11_init 94 = .ok (.bipush 16, 2) := by decide +kernel
theorem dX11_init_96 : decode cX11_init 96 = .ok (.if_icmp .ge 18, 3) := by decide +kernel
theorem dX11_init_99 : decode cX11_init 99 = .ok (.aload_n 0, 1) := by decide +kernel
theorem dX11_init_100 : decode cX11_init 100 = .ok (.getfield 7, 3) := by decide +kernel
theorem dX11_init_103 : decode cX11_init 103 = .ok (.iconst 3, 1) := by decide +kernel
theorem dX11_init_104 : decode cX11_init 104 = .ok (.iload_n 1, 1) := by decide +kernel
theorem dX11_init_105 : decode cX11_init 105 = .ok (.iadd, 1) := by decide +kernel
theorem dX11_init_106 : decode cX11_init 106 = .ok (.iload_n 1, 1) := by decide +kernel
theorem dX11_init_107 : decode cX11_init 107 = .ok (.iastore, 1) := by decide +kernel
theorem dX11_init_108 : decode cX11_init 108 = .ok (.iinc 1 1, 3) := by decide +kernel
theorem dX11_init_111 : decode cX11_init 111 = .ok (.goto (-18), 3) := by decide +kernel
theorem dX11_init_114 : decode cX11_init 114 = .ok (.return_, 1) := by decide +kernel
theorem dX11_in_0 : decode cX11_in 0 = .ok (.iload_n 0, 1) := by decide +kernel
theorem dX11_in_1 : decode cX11_in 1 = .ok (.iload_n 1, 1) := by decide +kernel
theorem dX11_in_2 : decode cX11_in 2 = .ok (.if_icmp .lt 12, 3) := by decide +kernel
theorem dX11_in_5 : decode cX11_in 5 = .ok (.iload_n 0, 1) := by decide +kernel
theorem dX11_in_6 : decode cX11_in 6 = .ok (.iload_n 2, 1) := by decide +kernel
theorem dX11_in_7 : decode cX11_in 7 = .ok (.if_icmp .gt 7, 3) := by decide +kernel
theorem dX11_in_10 : decode cX11_in 10 = .ok (.iconst 1, 1) := by decide +kernel
theorem dX11_in_11 : decode cX11_in 11 = .ok (.goto 4, 3) := by decide +kernel
theorem dX11_in_14 : decode cX11_in 14 = .ok (.iconst 0, 1) := by decide +kernel
theorem dX11_in_15 : decode cX11_in 15 = .ok (.ireturn, 1) := by decide +kernel
theorem dX11_finds_0 : decode cX11_finds 0 = .ok (.aload_n 0, 1) := by decide +kernel
theorem dX11_finds_1 : decode cX11_finds 1 = .ok (.getfield 13, 3) := by decide +kernel
theorem dX11_finds_4 : decode cX11_finds 4 = .ok (.ldc 44, 2) := by decide +kernel
theorem dX11_finds_6 : decode cX11_finds 6 = .ok (.iload_n 1, 1) := by decide +kernel
theorem dX11_finds_7 : decode cX11_finds 7 = .ok (.isub, 1) := by decide +kernel
theorem dX11_finds_8 : decode cX11_finds 8 = .ok (.dup2, 1) := by decide +kernel
theorem dX11_finds_9 : decode cX11_finds 9 = .ok (.iaload, 1) := by decide +kernel
theorem dX11_finds_10 : decode cX11_finds 10 = .ok (.iconst 1, 1) := by decide +kernel
theorem dX11_finds_11 : decode cX11_finds 11 = .ok (.iadd, 1) := by decide +kernel
theorem dX11_finds_12 : decode cX11_finds 12 = .ok (.iastore, 1) := by decide +kernel
theorem dX11_finds_13 : decode cX11_finds 13 = .ok (.iload_n 1, 1) := by decide +kernel
theorem dX11_finds_14 : decode cX11_finds 14 = .ok (.ireturn, 1) := by decide +kernel
theorem dX11_held_0 : decode cX11_held 0 = .ok (.iload_n 0, 1) := by decide +kernel
theorem dX11_held_1 : decode cX11_held 1 = .ok (.iload_n 1, 1) := by decide +kernel
theorem dX11_held_2 : decode cX11_held 2 = .ok (.if_icmp .ge 7, 3) := by decide +kernel
theorem dX11_held_5 : decode cX11_held 5 = .ok (.iload_n 1, 1) := by decide +kernel
theorem dX11_held_6 : decode cX11_held 6 = .ok (.goto 13, 3) := by decide +kernel
theorem dX11_held_9 : decode cX11_held 9 = .ok (.iload_n 0, 1) := by decide +kernel
theorem dX11_held_10 : decode cX11_held 10 = .ok (.iload_n 2, 1) := by decide +kernel
theorem dX11_held_11 : decode cX11_held 11 = .ok (.if_icmp .le 7, 3) := by decide +kernel
theorem dX11_held_14 : decode cX11_held 14 = .ok (.iload_n 2, 1) := by decide +kernel
theorem dX11_held_15 : decode cX11_held 15 = .ok (.goto 4, 3) := by decide +kernel
theorem dX11_held_18 : decode cX11_held 18 = .ok (.iload_n 0, 1) := by decide +kernel
theorem dX11_held_19 : decode cX11_held 19 = .ok (.ireturn, 1) := by decide +kernel
theorem dX11_its_0 : decode cX11_its 0 = .ok (.aload_n 0, 1) := by decide +kernel
theorem dX11_its_1 : decode cX11_its 1 = .ok (.getfield 7, 3) := by decide +kernel
theorem dX11_its_4 : decode cX11_its 4 = .ok (.bipush 19, 2) := by decide +kernel
theorem dX11_its_6 : decode cX11_its 6 = .ok (.iconst 5, 1) := by decide +kernel
theorem dX11_its_7 : decode cX11_its 7 = .ok (.iload_n 1, 1) := by decide +kernel
theorem dX11_its_8 : decode cX11_its 8 = .ok (.imul, 1) := by decide +kernel
theorem dX11_its_9 : decode cX11_its 9 = .ok (.iadd, 1) := by decide +kernel
theorem dX11_its_10 : decode cX11_its 10 = .ok (.iload_n 2, 1) := by decide +kernel
theorem dX11_its_11 : decode cX11_its 11 = .ok (.iadd, 1) := by decide +kernel
theorem dX11_its_12 : decode cX11_its 12 = .ok (.iaload, 1) := by decide +kernel
theorem dX11_its_13 : decode cX11_its 13 = .ok (.ireturn, 1) := by decide +kernel
theorem dX11_puts_0 : decode cX11_puts 0 = .ok (.aload_n 0, 1) := by decide +kernel
theorem dX11_puts_1 : decode cX11_puts 1 = .ok (.getfield 7, 3) := by decide +kernel
theorem dX11_puts_4 : decode cX11_puts 4 = .ok (.bipush 19, 2) := by decide +kernel
theorem dX11_puts_6 : decode cX11_puts 6 = .ok (.iconst 5, 1) := by decide +kernel
theorem dX11_puts_7 : decode cX11_puts 7 = .ok (.iload_n 1, 1) := by decide +kernel
theorem dX11_puts_8 : decode cX11_puts 8 = .ok (.imul, 1) := by decide +kernel
theorem dX11_puts_9 : decode cX11_puts 9 = .ok (.iadd, 1) := by decide +kernel
theorem dX11_puts_10 : decode cX11_puts 10 = .ok (.iload_n 2, 1) := by decide +kernel
theorem dX11_puts_11 : decode cX11_puts 11 = .ok (.iadd, 1) := by decide +kernel
theorem dX11_puts_12 : decode cX11_puts 12 = .ok (.iload_n 3, 1) := by decide +kernel
theorem dX11_puts_13 : decode cX11_puts 13 = .ok (.iastore, 1) := by decide +kernel
theorem dX11_puts_14 : decode cX11_puts 14 = .ok (.return_, 1) := by decide +kernel
theorem dX11_becomes_0 : decode cX11_becomes 0 = .ok (.aload_n 0, 1) := by decide +kernel
theorem dX11_becomes_1 : decode cX11_becomes 1 = .ok (.getfield 7, 3) := by decide +kernel
theorem dX11_becomes_4 : decode cX11_becomes 4 = .ok (.iload_n 1, 1) := by decide +kernel
theorem dX11_becomes_5 : decode cX11_becomes 5 = .ok (.iaload, 1) := by decide +kernel
theorem dX11_becomes_6 : decode cX11_becomes 6 = .ok (.istore_n 3, 1) := by decide +kernel
theorem dX11_becomes_7 : decode cX11_becomes 7 = .ok (.aload_n 0, 1) := by decide +kernel
theorem dX11_becomes_8 : decode cX11_becomes 8 = .ok (.getfield 7, 3) := by decide +kernel
theorem dX11_becomes_11 : decode cX11_becomes 11 = .ok (.iload_n 1, 1) := by decide +kernel
theorem dX11_becomes_12 : decode cX11_becomes 12 = .ok (.iload_n 2, 1) := by decide +kernel
theorem dX11_becomes_13 : decode cX11_becomes 13 = .ok (.iastore, 1) := by decide +kernel
theorem dX11_becomes_14 : decode cX11_becomes 14 = .ok (.iload_n 3, 1) := by decide +kernel
theorem dX11_becomes_15 : decode cX11_becomes 15 = .ok (.ireturn, 1) := by decide +kernel
theorem dX11_isOne_0 : decode cX11_isOne 0 = .ok (.iload_n 1, 1) := by decide +kernel
theorem dX11_isOne_1 : decode cX11_isOne 1 = .ok (.iconst 0, 1) := by decide +kernel
theorem dX11_isOne_2 : decode cX11_isOne 2 = .ok (.aload_n 0, 1) := by decide +kernel
theorem dX11_isOne_3 : decode cX11_isOne 3 = .ok (.getfield 7, 3) := by decide +kernel
theorem dX11_isOne_6 : decode cX11_isOne 6 = .ok (.iconst 2, 1) := by decide +kernel
theorem dX11_isOne_7 : decode cX11_isOne 7 = .ok (.iaload, 1) := by decide +kernel
theorem dX11_isOne_8 : decode cX11_isOne 8 = .ok (.iconst 1, 1) := by decide +kernel
theorem dX11_isOne_9 : decode cX11_isOne 9 = .ok (.isub, 1) := by decide +kernel
theorem dX11_isOne_10 : decode cX11_isOne 10 = .ok (.invokestatic 45, 3) := by decide +kernel
theorem dX11_isOne_13 : decode cX11_isOne 13 = .ok (.ireturn, 1) := by decide +kernel
theorem dX11_isKind_0 : decode cX11_isKind 0 = .ok (.iload_n 0, 1) := by decide +kernel
theorem dX11_isKind_1 : decode cX11_isKind 1 = .ok (.iconst 0, 1) := by decide +kernel
theorem dX11_isKind_2 : decode cX11_isKind 2 = .ok (.iconst 5, 1) := by decide +kernel
theorem dX11_isKind_3 : decode cX11_isKind 3 = .ok (.invokestatic 45, 3) := by decide +kernel
theorem dX11_isKind_6 : decode cX11_isKind 6 = .ok (.ireturn, 1) := by decide +kernel
theorem dX11_isThing_0 : decode cX11_isThing 0 = .ok (.iload_n 0, 1) := by decide +kernel
theorem dX11_isThing_1 : decode cX11_isThing 1 = .ok (.iconst 0, 1) := by decide +kernel
theorem dX11_isThing_2 : decode cX11_isThing 2 = .ok (.bipush 15, 2) := by decide +kernel
theorem dX11_isThing_4 : decode cX11_isThing 4 = .ok (.invokestatic 45, 3) := by decide +kernel
theorem dX11_isThing_7 : decode cX11_isThing 7 = .ok (.ireturn, 1) := by decide +kernel
theorem dX11_bits_0 : decode cX11_bits 0 = .ok (.iconst 0, 1) := by decide +kernel
theorem dX11_bits_1 : decode cX11_bits 1 = .ok (.istore_n 1, 1) := by decide +kernel
theorem dX11_bits_2 : decode cX11_bits 2 = .ok (.iload_n 0, 1) := by decide +kernel
theorem dX11_bits_3 : decode cX11_bits 3 = .ok (.istore_n 2, 1) := by decide +kernel
theorem dX11_bits_4 : decode cX11_bits 4 = .ok (.iload_n 2, 1) := by decide +kernel
theorem dX11_bits_5 : decode cX11_bits 5 = .ok (.ifCond .eq 15, 3) := by decide +kernel
theorem dX11_bits_8 : decode cX11_bits 8 = .ok (.iinc 1 1, 3) := by decide +kernel
theorem dX11_bits_11 : decode cX11_bits 11 = .ok (.iload_n 2, 1) := by decide +kernel
theorem dX11_bits_12 : decode cX11_bits 12 = .ok (.iload_n 2, 1) := by decide +kernel
theorem dX11_bits_13 : decode cX11_bits 13 = .ok (.iconst 1, 1) := by decide +kernel
theorem dX11_bits_14 : decode cX11_bits 14 = .ok (.isub, 1) := by decide +kernel
theorem dX11_bits_15 : decode cX11_bits 15 = .ok (.iand, 1) := by decide +kernel
theorem dX11_bits_16 : decode cX11_bits 16 = .ok (.istore_n 2, 1) := by decide +kernel
theorem dX11_bits_17 : decode cX11_bits 17 = .ok (.goto (-13), 3) := by decide +kernel
theorem dX11_bits_20 : decode cX11_bits 20 = .ok (.iload_n 1, 1) := by decide +kernel
theorem dX11_bits_21 : decode cX11_bits 21 = .ok (.ireturn, 1) := by decide +kernel
theorem dX11_bestOf_0 : decode cX11_bestOf 0 = .ok (.iconst (-1), 1) := by decide +kernel
theorem dX11_bestOf_1 : decode cX11_bestOf 1 = .ok (.istore_n 2, 1) := by decide +kernel
theorem dX11_bestOf_2 : decode cX11_bestOf 2 = .ok (.iconst 0, 1) := by decide +kernel
theorem dX11_bestOf_3 : decode cX11_bestOf 3 = .ok (.istore_n 3, 1) := by decide +kernel
theorem dX11_bestOf_4 : decode cX11_bestOf 4 = .ok (.iload_n 3, 1) := by decide +kernel
theorem dX11_bestOf_5 : decode cX11_bestOf 5 = .ok (.bipush 16, 2) := by decide +kernel
theorem dX11_bestOf_7 : decode cX11_bestOf 7 = .ok (.if_icmp .ge 47, 3) := by decide +kernel
theorem dX11_bestOf_10 : decode cX11_bestOf 10 = .ok (.iload_n 1, 1) := by decide +kernel
theorem dX11_bestOf_11 : decode cX11_bestOf 11 = .ok (.iload_n 3, 1) := by decide +kernel
theorem dX11_bestOf_12 : decode cX11_bestOf 12 = .ok (.ishr, 1) := by decide +kernel
theorem dX11_bestOf_13 : decode cX11_bestOf 13 = .ok (.iconst 1, 1) := by decide +kernel
theorem dX11_bestOf_14 : decode cX11_bestOf 14 = .ok (.iand, 1) := by decide +kernel
theorem dX11_bestOf_15 : decode cX11_bestOf 15 = .ok (.iconst 1, 1) := by decide +kernel
theorem dX11_bestOf_16 : decode cX11_bestOf 16 = .ok (.if_icmp .ne 30, 3) := by decide +kernel
theorem dX11_bestOf_19 : decode cX11_bestOf 19 = .ok (.iload_n 2, 1) := by decide +kernel
theorem dX11_bestOf_20 : decode cX11_bestOf 20 = .ok (.ifCond .lt 22, 3) := by decide +kernel
theorem dX11_bestOf_23 : decode cX11_bestOf 23 = .ok (.aload_n 0, 1) := by decide +kernel
theorem dX11_bestOf_24 : decode cX11_bestOf 24 = .ok (.getfield 7, 3) := by decide +kernel
theorem dX11_bestOf_27 : decode cX11_bestOf 27 = .ok (.iconst 3, 1) := by decide +kernel
theorem dX11_bestOf_28 : decode cX11_bestOf 28 = .ok (.iload_n 3, 1) := by decide +kernel
theorem dX11_bestOf_29 : decode cX11_bestOf 29 = .ok (.iadd, 1) := by decide +kernel
theorem dX11_bestOf_30 : decode cX11_bestOf 30 = .ok (.iaload, 1) := by decide +kernel
theorem dX11_bestOf_31 : decode cX11_bestOf 31 = .ok (.aload_n 0, 1) := by decide +kernel
theorem dX11_bestOf_32 : decode cX11_bestOf 32 = .ok (.getfield 7, 3) := by decide +kernel
theorem dX11_bestOf_35 : decode cX11_bestOf 35 = .ok (.iconst 3, 1) := by decide +kernel
theorem dX11_bestOf_36 : decode cX11_bestOf 36 = .ok (.iload_n 2, 1) := by decide +kernel
theorem dX11_bestOf_37 : decode cX11_bestOf 37 = .ok (.iadd, 1) := by decide +kernel
theorem dX11_bestOf_38 : decode cX11_bestOf 38 = .ok (.iaload, 1) := by decide +kernel
theorem dX11_bestOf_39 : decode cX11_bestOf 39 = .ok (.if_icmp .le 7, 3) := by decide +kernel
theorem dX11_bestOf_42 : decode cX11_bestOf 42 = .ok (.iload_n 3, 1) := by decide +kernel
theorem dX11_bestOf_43 : decode cX11_bestOf 43 = .ok (.goto 4, 3) := by decide +kernel
theorem dX11_bestOf_46 : decode cX11_bestOf 46 = .ok (.iload_n 2, 1) := by decide +kernel
theorem dX11_bestOf_47 : decode cX11_bestOf 47 = .ok (.istore_n 2, 1) := by decide +kernel
theorem dX11_bestOf_48 : decode cX11_bestOf 48 = .ok (.iinc 3 1, 3) := by decide +kernel
theorem dX11_bestOf_51 : decode cX11_bestOf 51 = .ok (.goto (-47), 3) := by decide +kernel
theorem dX11_bestOf_54 : decode cX11_bestOf 54 = .ok (.iload_n 2, 1) := by decide +kernel
theorem dX11_bestOf_55 : decode cX11_bestOf 55 = .ok (.ireturn, 1) := by decide +kernel
theorem dX11_worstOf_0 : decode cX11_worstOf 0 = .ok (.iconst (-1), 1) := by decide +kernel
theorem dX11_worstOf_1 : decode cX11_worstOf 1 = .ok (.istore_n 2, 1) := by decide +kernel
theorem dX11_worstOf_2 : decode cX11_worstOf 2 = .ok (.iconst 0, 1) := by decide +kernel
theorem dX11_worstOf_3 : decode cX11_worstOf 3 = .ok (.istore_n 3, 1) := by decide +kernel
theorem dX11_worstOf_4 : decode cX11_worstOf 4 = .ok (.iload_n 3, 1) := by decide +kernel
theorem dX11_worstOf_5 : decode cX11_worstOf 5 = .ok (.bipush 16, 2) := by decide +kernel
theorem dX11_worstOf_7 : decode cX11_worstOf 7 = .ok (.if_icmp .ge 47, 3) := by decide +kernel
theorem dX11_worstOf_10 : decode cX11_worstOf 10 = .ok (.iload_n 1, 1) := by decide +kernel
theorem dX11_worstOf_11 : decode cX11_worstOf 11 = .ok (.iload_n 3, 1) := by decide +kernel
theorem dX11_worstOf_12 : decode cX11_worstOf 12 = .ok (.ishr, 1) := by decide +kernel
theorem dX11_worstOf_13 : decode cX11_worstOf 13 = .ok (.iconst 1, 1) := by decide +kernel
theorem dX11_worstOf_14 : decode cX11_worstOf 14 = .ok (.iand, 1) := by decide +kernel
theorem dX11_worstOf_15 : decode cX11_worstOf 15 = .ok (.iconst 1, 1) := by decide +kernel
theorem dX11_worstOf_16 : decode cX11_worstOf 16 = .ok (.if_icmp .ne 30, 3) := by decide +kernel
theorem dX11_worstOf_19 : decode cX11_worstOf 19 = .ok (.iload_n 2, 1) := by decide +kernel
theorem dX11_worstOf_20 : decode cX11_worstOf 20 = .ok (.ifCond .lt 22, 3) := by decide +kernel
theorem dX11_worstOf_23 : decode cX11_worstOf 23 = .ok (.aload_n 0, 1) := by decide +kernel
theorem dX11_worstOf_24 : decode cX11_worstOf 24 = .ok (.getfield 7, 3) := by decide +kernel
theorem dX11_worstOf_27 : decode cX11_worstOf 27 = .ok (.iconst 3, 1) := by decide +kernel
theorem dX11_worstOf_28 : decode cX11_worstOf 28 = .ok (.iload_n 3, 1) := by decide +kernel
theorem dX11_worstOf_29 : decode cX11_worstOf 29 = .ok (.iadd, 1) := by decide +kernel
theorem dX11_worstOf_30 : decode cX11_worstOf 30 = .ok (.iaload, 1) := by decide +kernel
theorem dX11_worstOf_31 : decode cX11_worstOf 31 = .ok (.aload_n 0, 1) := by decide +kernel
theorem dX11_worstOf_32 : decode cX11_worstOf 32 = .ok (.getfield 7, 3) := by decide +kernel
theorem dX11_worstOf_35 : decode cX11_worstOf 35 = .ok (.iconst 3, 1) := by decide +kernel
theorem dX11_worstOf_36 : decode cX11_worstOf 36 = .ok (.iload_n 2, 1) := by decide +kernel
theorem dX11_worstOf_37 : decode cX11_worstOf 37 = .ok (.iadd, 1) := by decide +kernel
theorem dX11_worstOf_38 : decode cX11_worstOf 38 = .ok (.iaload, 1) := by decide +kernel
theorem dX11_worstOf_39 : decode cX11_worstOf 39 = .ok (.if_icmp .ge 7, 3) := by decide +kernel
theorem dX11_worstOf_42 : decode cX11_worstOf 42 = .ok (.iload_n 3, 1) := by decide +kernel
theorem dX11_worstOf_43 : decode cX11_worstOf 43 = .ok (.goto 4, 3) := by decide +kernel
theorem dX11_worstOf_46 : decode cX11_worstOf 46 = .ok (.iload_n 2, 1) := by decide +kernel
theorem dX11_worstOf_47 : decode cX11_worstOf 47 = .ok (.istore_n 2, 1) := by decide +kernel
theorem dX11_worstOf_48 : decode cX11_worstOf 48 = .ok (.iinc 3 1, 3) := by decide +kernel
theorem dX11_worstOf_51 : decode cX11_worstOf 51 = .ok (.goto (-47), 3) := by decide +kernel
theorem dX11_worstOf_54 : decode cX11_worstOf 54 = .ok (.iload_n 2, 1) := by decide +kernel
theorem dX11_worstOf_55 : decode cX11_worstOf 55 = .ok (.ireturn, 1) := by decide +kernel
theorem dX11_lastOf_0 : decode cX11_lastOf 0 = .ok (.bipush 15, 2) := by decide +kernel
theorem dX11_lastOf_2 : decode cX11_lastOf 2 = .ok (.istore_n 1, 1) := by decide +kernel
theorem dX11_lastOf_3 : decode cX11_lastOf 3 = .ok (.iload_n 1, 1) := by decide +kernel
theorem dX11_lastOf_4 : decode cX11_lastOf 4 = .ok (.ifCond .lt 17, 3) := by decide +kernel
theorem dX11_lastOf_7 : decode cX11_lastOf 7 = .ok (.iload_n 0, 1) := by decide +kernel
theorem dX11_lastOf_8 : decode cX11_lastOf 8 = .ok (.iload_n 1, 1) := by decide +kernel
theorem dX11_lastOf_9 : decode cX11_lastOf 9 = .ok (.ishr, 1) := by decide +kernel
theorem dX11_lastOf_10 : decode cX11_lastOf 10 = .ok (.iconst 1, 1) := by decide +kernel
theorem dX11_lastOf_11 : decode cX11_lastOf 11 = .ok (.iand, 1) := by decide +kernel
theorem dX11_lastOf_12 : decode cX11_lastOf 12 = .ok (.ifCond .ne 9, 3) := by decide +kernel
theorem dX11_lastOf_15 : decode cX11_lastOf 15 = .ok (.iinc 1 (-1), 3) := by decide +kernel
theorem dX11_lastOf_18 : decode cX11_lastOf 18 = .ok (.goto (-15), 3) := by decide +kernel
theorem dX11_lastOf_21 : decode cX11_lastOf 21 = .ok (.iload_n 1, 1) := by decide +kernel
theorem dX11_lastOf_22 : decode cX11_lastOf 22 = .ok (.ireturn, 1) := by decide +kernel
theorem dX11_but_0 : decode cX11_but 0 = .ok (.iload_n 1, 1) := by decide +kernel
theorem dX11_but_1 : decode cX11_but 1 = .ok (.ifCond .ge 7, 3) := by decide +kernel
theorem dX11_but_4 : decode cX11_but 4 = .ok (.iload_n 0, 1) := by decide +kernel
theorem dX11_but_5 : decode cX11_but 5 = .ok (.goto 10, 3) := by decide +kernel
theorem dX11_but_8 : decode cX11_but 8 = .ok (.iload_n 0, 1) := by decide +kernel
theorem dX11_but_9 : decode cX11_but 9 = .ok (.iconst 1, 1) := by decide +kernel
theorem dX11_but_10 : decode cX11_but 10 = .ok (.iload_n 1, 1) := by decide +kernel
theorem dX11_but_11 : decode cX11_but 11 = .ok (.ishl, 1) := by decide +kernel
theorem dX11_but_12 : decode cX11_but 12 = .ok (.iconst (-1), 1) := by decide +kernel
theorem dX11_but_13 : decode cX11_but 13 = .ok (.ixor, 1) := by decide +kernel
theorem dX11_but_14 : decode cX11_but 14 = .ok (.iand, 1) := by decide +kernel
theorem dX11_but_15 : decode cX11_but 15 = .ok (.ireturn, 1) := by decide +kernel
theorem dX11_valueOf_0 : decode cX11_valueOf 0 = .ok (.iconst 0, 1) := by decide +kernel
theorem dX11_valueOf_1 : decode cX11_valueOf 1 = .ok (.istore_n 2, 1) := by decide +kernel
theorem dX11_valueOf_2 : decode cX11_valueOf 2 = .ok (.iconst 0, 1) := by decide +kernel
theorem dX11_valueOf_3 : decode cX11_valueOf 3 = .ok (.istore_n 3, 1) := by decide +kernel
theorem dX11_valueOf_4 : decode cX11_valueOf 4 = .ok (.iload_n 3, 1) := by decide +kernel
theorem dX11_valueOf_5 : decode cX11_valueOf 5 = .ok (.bipush 16, 2) := by decide +kernel
theorem dX11_valueOf_7 : decode cX11_valueOf 7 = .ok (.if_icmp .ge 33, 3) := by decide +kernel
theorem dX11_valueOf_10 : decode cX11_valueOf 10 = .ok (.iload_n 2, 1) := by decide +kernel
theorem dX11_valueOf_11 : decode cX11_valueOf 11 = .ok (.iload_n 1, 1) := by decide +kernel
theorem dX11_valueOf_12 : decode cX11_valueOf 12 = .ok (.iload_n 3, 1) := by decide +kernel
theorem dX11_valueOf_13 : decode cX11_valueOf 13 = .ok (.ishr, 1) := by decide +kernel
theorem dX11_valueOf_14 : decode cX11_valueOf 14 = .ok (.iconst 1, 1) := by decide +kernel
theorem dX11_valueOf_15 : decode cX11_valueOf 15 = .ok (.iand, 1) := by decide +kernel
theorem dX11_valueOf_16 : decode cX11_valueOf 16 = .ok (.iconst 1, 1) := by decide +kernel
theorem dX11_valueOf_17 : decode cX11_valueOf 17 = .ok (.if_icmp .ne 14, 3) := by decide +kernel
theorem dX11_valueOf_20 : decode cX11_valueOf 20 = .ok (.aload_n 0, 1) := by decide +kernel
theorem dX11_valueOf_21 : decode cX11_valueOf 21 = .ok (.getfield 7, 3) := by decide +kernel
theorem dX11_valueOf_24 : decode cX11_valueOf 24 = .ok (.iconst 3, 1) := by decide +kernel
theorem dX11_valueOf_25 : decode cX11_valueOf 25 = .ok (.iload_n 3, 1) := by decide +kernel
theorem dX11_valueOf_26 : decode cX11_valueOf 26 = .ok (.iadd, 1) := by decide +kernel
theorem dX11_valueOf_27 : decode cX11_valueOf 27 = .ok (.iaload, 1) := by decide +kernel
theorem dX11_valueOf_28 : decode cX11_valueOf 28 = .ok (.goto 4, 3) := by decide +kernel
theorem dX11_valueOf_31 : decode cX11_valueOf 31 = .ok (.iconst 0, 1) := by decide +kernel
theorem dX11_valueOf_32 : decode cX11_valueOf 32 = .ok (.iadd, 1) := by decide +kernel
theorem dX11_valueOf_33 : decode cX11_valueOf 33 = .ok (.istore_n 2, 1) := by decide +kernel
theorem dX11_valueOf_34 : decode cX11_valueOf 34 = .ok (.iinc 3 1, 3) := by decide +kernel
theorem dX11_valueOf_37 : decode cX11_valueOf 37 = .ok (.goto (-33), 3) := by decide +kernel
theorem dX11_valueOf_40 : decode cX11_valueOf 40 = .ok (.iload_n 2, 1) := by decide +kernel
theorem dX11_valueOf_41 : decode cX11_valueOf 41 = .ok (.ireturn, 1) := by decide +kernel
theorem dX11_worth_0 : decode cX11_worth 0 = .ok (.iload_n 1, 1) := by decide +kernel
theorem dX11_worth_1 : decode cX11_worth 1 = .ok (.invokestatic 49, 3) := by decide +kernel
theorem dX11_worth_4 : decode cX11_worth 4 = .ok (.ifCond .eq 24, 3) := by decide +kernel
theorem dX11_worth_7 : decode cX11_worth 7 = .ok (.iload_n 2, 1) := by decide +kernel
theorem dX11_worth_8 : decode cX11_worth 8 = .ok (.iconst 0, 1) := by decide +kernel
theorem dX11_worth_9 : decode cX11_worth 9 = .ok (.bipush 99, 2) := by decide +kernel
theorem dX11_worth_11 : decode cX11_worth 11 = .ok (.invokestatic 45, 3) := by decide +kernel
theorem dX11_worth_14 : decode cX11_worth 14 = .ok (.ifCond .eq 14, 3) := by decide +kernel
theorem dX11_worth_17 : decode cX11_worth 17 = .ok (.aload_n 0, 1) := by decide +kernel
theorem dX11_worth_18 : decode cX11_worth 18 = .ok (.iconst 3, 1) := by decide +kernel
theorem dX11_worth_19 : decode cX11_worth 19 = .ok (.iload_n 1, 1) := by decide +kernel
theorem dX11_worth_20 : decode cX11_worth 20 = .ok (.iadd, 1) := by decide +kernel
theorem dX11_worth_21 : decode cX11_worth 21 = .ok (.iload_n 2, 1) := by decide +kernel
theorem dX11_worth_22 : decode cX11_worth 22 = .ok (.invokevirtual 53, 3) := by decide +kernel
theorem dX11_worth_25 : decode cX11_worth 25 = .ok (.goto 9, 3) := by decide +kernel
theorem dX11_worth_28 : decode cX11_worth 28 = .ok (.aload_n 0, 1) := by decide +kernel
theorem dX11_worth_29 : decode cX11_worth 29 = .ok (.ldc 44, 2) := by decide +kernel
theorem dX11_worth_31 : decode cX11_worth 31 = .ok (.invokevirtual 57, 3) := by decide +kernel
theorem dX11_worth_34 : decode cX11_worth 34 = .ok (.ireturn, 1) := by decide +kernel
theorem dX11_worthOf_0 : decode cX11_worthOf 0 = .ok (.iload_n 1, 1) := by decide +kernel
theorem dX11_worthOf_1 : decode cX11_worthOf 1 = .ok (.invokestatic 49, 3) := by decide +kernel
theorem dX11_worthOf_4 : decode cX11_worthOf 4 = .ok (.ifCond .eq 14, 3) := by decide +kernel
theorem dX11_worthOf_7 : decode cX11_worthOf 7 = .ok (.aload_n 0, 1) := by decide +kernel
theorem dX11_worthOf_8 : decode cX11_worthOf 8 = .ok (.getfield 7, 3) := by decide +kernel
theorem dX11_worthOf_11 : decode cX11_worthOf 11 = .ok (.iconst 3, 1) := by decide +kernel
theorem dX11_worthOf_12 : decode cX11_worthOf 12 = .ok (.iload_n 1, 1) := by decide +kernel
theorem dX11_worthOf_13 : decode cX11_worthOf 13 = .ok (.iadd, 1) := by decide +kernel
theorem dX11_worthOf_14 : decode cX11_worthOf 14 = .ok (.iaload, 1) := by decide +kernel
theorem dX11_worthOf_15 : decode cX11_worthOf 15 = .ok (.goto 9, 3) := by decide +kernel
theorem dX11_worthOf_18 : decode cX11_worthOf 18 = .ok (.aload_n 0, 1) := by decide +kernel
theorem dX11_worthOf_19 : decode cX11_worthOf 19 = .ok (.ldc 44, 2) := by decide +kernel
theorem dX11_worthOf_21 : decode cX11_worthOf 21 = .ok (.invokevirtual 57, 3) := by decide +kernel
theorem dX11_worthOf_24 : decode cX11_worthOf 24 = .ok (.ireturn, 1) := by decide +kernel
theorem dX11_who_0 : decode cX11_who 0 = .ok (.iload_n 1, 1) := by decide +kernel
theorem dX11_who_1 : decode cX11_who 1 = .ok (.invokestatic 49, 3) := by decide +kernel
theorem dX11_who_4 : decode cX11_who 4 = .ok (.ifCond .ne 10, 3) := by decide +kernel
theorem dX11_who_7 : decode cX11_who 7 = .ok (.aload_n 0, 1) := by decide +kernel
theorem dX11_who_8 : decode cX11_who 8 = .ok (.ldc 44, 2) := by decide +kernel
theorem dX11_who_10 : decode cX11_who 10 = .ok (.invokevirtual 57, 3) := by decide +kernel
theorem dX11_who_13 : decode cX11_who 13 = .ok (.ireturn, 1) := by decide +kernel
theorem dX11_who_14 : decode cX11_who 14 = .ok (.iconst 0, 1) := by decide +kernel
theorem dX11_who_15 : decode cX11_who 15 = .ok (.istore_n 2, 1) := by decide +kernel
theorem dX11_who_16 : decode cX11_who 16 = .ok (.iconst 0, 1) := by decide +kernel
theorem dX11_who_17 : decode cX11_who 17 = .ok (.istore_n 3, 1) := by decide +kernel
theorem dX11_who_18 : decode cX11_who 18 = .ok (.iload_n 3, 1) := by decide +kernel
theorem dX11_who_19 : decode cX11_who 19 = .ok (.aload_n 0, 1) := by decide +kernel
theorem dX11_who_20 : decode cX11_who 20 = .ok (.getfield 7, 3) := by decide +kernel
theorem dX11_who_23 : decode cX11_who 23 = .ok (.iconst 2, 1) := by decide +kernel
theorem dX11_who_24 : decode cX11_who 24 = .ok (.iaload, 1) := by decide +kernel
theorem dX11_who_25 : decode cX11_who 25 = .ok (.if_icmp .ge 24, 3) := by decide +kernel
theorem dX11_who_28 : decode cX11_who 28 = .ok (.iload_n 2, 1) := by decide +kernel
theorem dX11_who_29 : decode cX11_who 29 = .ok (.aload_n 0, 1) := by decide +kernel
theorem dX11_who_30 : decode cX11_who 30 = .ok (.iload_n 3, 1) := by decide +kernel
theorem dX11_who_31 : decode cX11_who 31 = .ok (.iconst 2, 1) := by decide +kernel
theorem dX11_who_32 : decode cX11_who 32 = .ok (.invokevirtual 61, 3) := by decide +kernel
theorem dX11_who_35 : decode cX11_who 35 = .ok (.iload_n 1, 1) := by decide +kernel
theorem dX11_who_36 : decode cX11_who 36 = .ok (.ishr, 1) := by decide +kernel
theorem dX11_who_37 : decode cX11_who 37 = .ok (.iconst 1, 1) := by decide +kernel
theorem dX11_who_38 : decode cX11_who 38 = .ok (.iand, 1) := by decide +kernel
theorem dX11_who_39 : decode cX11_who 39 = .ok (.iload_n 3, 1) := by decide +kernel
theorem dX11_who_40 : decode cX11_who 40 = .ok (.ishl, 1) := by decide +kernel
theorem dX11_who_41 : decode cX11_who 41 = .ok (.ior, 1) := by decide +kernel
theorem dX11_who_42 : decode cX11_who 42 = .ok (.istore_n 2, 1) := by decide +kernel
theorem dX11_who_43 : decode cX11_who 43 = .ok (.iinc 3 1, 3) := by decide +kernel
theorem dX11_who_46 : decode cX11_who 46 = .ok (.goto (-28), 3) := by decide +kernel
theorem dX11_who_49 : decode cX11_who 49 = .ok (.iload_n 2, 1) := by decide +kernel
theorem dX11_who_50 : decode cX11_who 50 = .ok (.ireturn, 1) := by decide +kernel
theorem dX11_shows_0 : decode cX11_shows 0 = .ok (.aload_n 0, 1) := by decide +kernel
theorem dX11_shows_1 : decode cX11_shows 1 = .ok (.iload_n 1, 1) := by decide +kernel
theorem dX11_shows_2 : decode cX11_shows 2 = .ok (.iconst 2, 1) := by decide +kernel
theorem dX11_shows_3 : decode cX11_shows 3 = .ok (.invokevirtual 61, 3) := by decide +kernel
theorem dX11_shows_6 : decode cX11_shows 6 = .ok (.istore_n 2, 1) := by decide +kernel
theorem dX11_shows_7 : decode cX11_shows 7 = .ok (.iload_n 2, 1) := by decide +kernel
theorem dX11_shows_8 : decode cX11_shows 8 = .ok (.aload_n 0, 1) := by decide +kernel
theorem dX11_shows_9 : decode cX11_shows 9 = .ok (.iload_n 2, 1) := by decide +kernel
theorem dX11_shows_10 : decode cX11_shows 10 = .ok (.invokevirtual 64, 3) := by decide +kernel
theorem dX11_shows_13 : decode cX11_shows 13 = .ok (.invokestatic 67, 3) := by decide +kernel
theorem dX11_shows_16 : decode cX11_shows 16 = .ok (.istore_n 3, 1) := by decide +kernel
theorem dX11_shows_17 : decode cX11_shows 17 = .ok (.aload_n 0, 1) := by decide +kernel
theorem dX11_shows_18 : decode cX11_shows 18 = .ok (.iload_n 1, 1) := by decide +kernel
theorem dX11_shows_19 : decode cX11_shows 19 = .ok (.iconst 0, 1) := by decide +kernel
theorem dX11_shows_20 : decode cX11_shows 20 = .ok (.invokevirtual 61, 3) := by decide +kernel
theorem dX11_shows_23 : decode cX11_shows 23 = .ok (.tableswitch 62 1 5 #[33, 62, 62, 35, 45], 33) := by decide +kernel
theorem dX11_shows_56 : decode cX11_shows 56 = .ok (.iload_n 3, 1) := by decide +kernel
theorem dX11_shows_57 : decode cX11_shows 57 = .ok (.ireturn, 1) := by decide +kernel
theorem dX11_shows_58 : decode cX11_shows 58 = .ok (.iload_n 3, 1) := by decide +kernel
theorem dX11_shows_59 : decode cX11_shows 59 = .ok (.aload_n 0, 1) := by decide +kernel
theorem dX11_shows_60 : decode cX11_shows 60 = .ok (.iload_n 3, 1) := by decide +kernel
theorem dX11_shows_61 : decode cX11_shows 61 = .ok (.invokevirtual 64, 3) := by decide +kernel
theorem dX11_shows_64 : decode cX11_shows 64 = .ok (.invokestatic 67, 3) := by decide +kernel
theorem dX11_shows_67 : decode cX11_shows 67 = .ok (.ireturn, 1) := by decide +kernel
theorem dX11_shows_68 : decode cX11_shows 68 = .ok (.aload_n 0, 1) := by decide +kernel
theorem dX11_shows_69 : decode cX11_shows 69 = .ok (.iload_n 1, 1) := by decide +kernel
theorem dX11_shows_70 : decode cX11_shows 70 = .ok (.iconst 1, 1) := by decide +kernel
theorem dX11_shows_71 : decode cX11_shows 71 = .ok (.invokevirtual 61, 3) := by decide +kernel
theorem dX11_shows_74 : decode cX11_shows 74 = .ok (.bipush 49, 2) := by decide +kernel
theorem dX11_shows_76 : decode cX11_shows 76 = .ok (.if_icmp .ge 7, 3) := by decide +kernel
theorem dX11_shows_79 : decode cX11_shows 79 = .ok (.iconst 0, 1) := by decide +kernel
theorem dX11_shows_80 : decode cX11_shows 80 = .ok (.goto 4, 3) := by decide +kernel
theorem dX11_shows_83 : decode cX11_shows 83 = .ok (.iload_n 2, 1) := by decide +kernel
theorem dX11_shows_84 : decode cX11_shows 84 = .ok (.ireturn, 1) := by decide +kernel
theorem dX11_shows_85 : decode cX11_shows 85 = .ok (.iload_n 2, 1) := by decide +kernel
theorem dX11_shows_86 : decode cX11_shows 86 = .ok (.ireturn, 1) := by decide +kernel
theorem dX11_taken_0 : decode cX11_taken 0 = .ok (.aload_n 0, 1) := by decide +kernel
theorem dX11_taken_1 : decode cX11_taken 1 = .ok (.iload_n 1, 1) := by decide +kernel
theorem dX11_taken_2 : decode cX11_taken 2 = .ok (.invokevirtual 70, 3) := by decide +kernel
theorem dX11_taken_5 : decode cX11_taken 5 = .ok (.istore_n 2, 1) := by decide +kernel
theorem dX11_taken_6 : decode cX11_taken 6 = .ok (.aload_n 0, 1) := by decide +kernel
theorem dX11_taken_7 : decode cX11_taken 7 = .ok (.iload_n 2, 1) := by decide +kernel
theorem dX11_taken_8 : decode cX11_taken 8 = .ok (.invokevirtual 73, 3) := by decide +kernel
theorem dX11_taken_11 : decode cX11_taken 11 = .ok (.istore_n 3, 1) := by decide +kernel
theorem dX11_taken_12 : decode cX11_taken 12 = .ok (.aload_n 0, 1) := by decide +kernel
theorem dX11_taken_13 : decode cX11_taken 13 = .ok (.iload_n 1, 1) := by decide +kernel
theorem dX11_taken_14 : decode cX11_taken 14 = .ok (.iconst 0, 1) := by decide +kernel
theorem dX11_taken_15 : decode cX11_taken 15 = .ok (.invokevirtual 61, 3) := by decide +kernel
theorem dX11_taken_18 : decode cX11_taken 18 = .ok (.tableswitch 59 2 5 #[30, 32, 59, 37], 30) := by decide +kernel
theorem dX11_taken_48 : decode cX11_taken 48 = .ok (.iload_n 3, 1) := by decide +kernel
theorem dX11_taken_49 : decode cX11_taken 49 = .ok (.ireturn, 1) := by decide +kernel
theorem dX11_taken_50 : decode cX11_taken 50 = .ok (.iload_n 2, 1) := by decide +kernel
theorem dX11_taken_51 : decode cX11_taken 51 = .ok (.invokestatic 76, 3) := by decide +kernel
theorem dX11_taken_54 : decode cX11_taken 54 = .ok (.ireturn, 1) := by decide +kernel
theorem dX11_taken_55 : decode cX11_taken 55 = .ok (.iload_n 2, 1) := by decide +kernel
theorem dX11_taken_56 : decode cX11_taken 56 = .ok (.invokestatic 79, 3) := by decide +kernel
theorem dX11_taken_59 : decode cX11_taken 59 = .ok (.iconst 1, 1) := by decide +kernel
theorem dX11_taken_60 : decode cX11_taken 60 = .ok (.if_icmp .le 15, 3) := by decide +kernel
theorem dX11_taken_63 : decode cX11_taken 63 = .ok (.aload_n 0, 1) := by decide +kernel
theorem dX11_taken_64 : decode cX11_taken 64 = .ok (.iload_n 2, 1) := by decide +kernel
theorem dX11_taken_65 : decode cX11_taken 65 = .ok (.iload_n 3, 1) := by decide +kernel
theorem dX11_taken_66 : decode cX11_taken 66 = .ok (.invokestatic 67, 3) := by decide +kernel
theorem dX11_taken_69 : decode cX11_taken 69 = .ok (.invokevirtual 73, 3) := by decide +kernel
theorem dX11_taken_72 : decode cX11_taken 72 = .ok (.goto 4, 3) := by decide +kernel
theorem dX11_taken_75 : decode cX11_taken 75 = .ok (.iload_n 3, 1) := by decide +kernel
theorem dX11_taken_76 : decode cX11_taken 76 = .ok (.ireturn, 1) := by decide +kernel
theorem dX11_taken_77 : decode cX11_taken 77 = .ok (.aload_n 0, 1) := by decide +kernel
theorem dX11_taken_78 : decode cX11_taken 78 = .ok (.iload_n 2, 1) := by decide +kernel
theorem dX11_taken_79 : decode cX11_taken 79 = .ok (.invokevirtual 64, 3) := by decide +kernel
theorem dX11_taken_82 : decode cX11_taken 82 = .ok (.ireturn, 1) := by decide +kernel
theorem dX11_findsAt_0 : decode cX11_findsAt 0 = .ok (.iconst 5, 1) := by decide +kernel
theorem dX11_findsAt_1 : decode cX11_findsAt 1 = .ok (.iload_n 2, 1) := by decide +kernel
theorem dX11_findsAt_2 : decode cX11_findsAt 2 = .ok (.imul, 1) := by decide +kernel
theorem dX11_findsAt_3 : decode cX11_findsAt 3 = .ok (.bipush 16, 2) := by decide +kernel
theorem dX11_findsAt_5 : decode cX11_findsAt 5 = .ok (.irem, 1) := by decide +kernel
theorem dX11_findsAt_6 : decode cX11_findsAt 6 = .ok (.istore_n 3, 1) := by decide +kernel
theorem dX11_findsAt_7 : decode cX11_findsAt 7 = .ok (.aload_n 0, 1) := by decide +kernel
theorem dX11_findsAt_8 : decode cX11_findsAt 8 = .ok (.iload_n 1, 1) := by decide +kernel
theorem dX11_findsAt_9 : decode cX11_findsAt 9 = .ok (.iconst 0, 1) := by decide +kernel
theorem dX11_findsAt_10 : decode cX11_findsAt 10 = .ok (.invokevirtual 61, 3) := by decide +kernel
theorem dX11_findsAt_13 : decode cX11_findsAt 13 = .ok (.tableswitch 53 2 5 #[31, 44, 53, 51], 31) := by decide +kernel
theorem dX11_findsAt_44 : decode cX11_findsAt 44 = .ok (.iload_n 2, 1) := by decide +kernel
theorem dX11_findsAt_45 : decode cX11_findsAt 45 = .ok (.iconst 2, 1) := by decide +kernel
theorem dX11_findsAt_46 : decode cX11_findsAt 46 = .ok (.irem, 1) := by decide +kernel
theorem dX11_findsAt_47 : decode cX11_findsAt 47 = .ok (.iconst 1, 1) := by decide +kernel
theorem dX11_findsAt_48 : decode cX11_findsAt 48 = .ok (.if_icmp .ne 7, 3) := by decide +kernel
theorem dX11_findsAt_51 : decode cX11_findsAt 51 = .ok (.iconst (-1), 1) := by decide +kernel
theorem dX11_findsAt_52 : decode cX11_findsAt 52 = .ok (.goto 4, 3) := by decide +kernel
theorem dX11_findsAt_55 : decode cX11_findsAt 55 = .ok (.iload_n 3, 1) := by decide +kernel
theorem dX11_findsAt_56 : decode cX11_findsAt 56 = .ok (.ireturn, 1) := by decide +kernel
theorem dX11_findsAt_57 : decode cX11_findsAt 57 = .ok (.iload_n 3, 1) := by decide +kernel
theorem dX11_findsAt_58 : decode cX11_findsAt 58 = .ok (.iconst 1, 1) := by decide +kernel
theorem dX11_findsAt_59 : decode cX11_findsAt 59 = .ok (.iadd, 1) := by decide +kernel
theorem dX11_findsAt_60 : decode cX11_findsAt 60 = .ok (.bipush 16, 2) := by decide +kernel
theorem dX11_findsAt_62 : decode cX11_findsAt 62 = .ok (.irem, 1) := by decide +kernel
theorem dX11_findsAt_63 : decode cX11_findsAt 63 = .ok (.ireturn, 1) := by decide +kernel
theorem dX11_findsAt_64 : decode cX11_findsAt 64 = .ok (.iconst (-1), 1) := by decide +kernel
theorem dX11_findsAt_65 : decode cX11_findsAt 65 = .ok (.ireturn, 1) := by decide +kernel
theorem dX11_findsAt_66 : decode cX11_findsAt 66 = .ok (.iload_n 3, 1) := by decide +kernel
theorem dX11_findsAt_67 : decode cX11_findsAt 67 = .ok (.ireturn, 1) := by decide +kernel
theorem dX11_adds_0 : decode cX11_adds 0 = .ok (.aload_n 0, 1) := by decide +kernel
theorem dX11_adds_1 : decode cX11_adds 1 = .ok (.getfield 7, 3) := by decide +kernel
theorem dX11_adds_4 : decode cX11_adds 4 = .ok (.iconst 2, 1) := by decide +kernel
theorem dX11_adds_5 : decode cX11_adds 5 = .ok (.iaload, 1) := by decide +kernel
theorem dX11_adds_6 : decode cX11_adds 6 = .ok (.istore 5, 2) := by decide +kernel
theorem dX11_adds_8 : decode cX11_adds 8 = .ok (.aload_n 0, 1) := by decide +kernel
theorem dX11_adds_9 : decode cX11_adds 9 = .ok (.iload 5, 2) := by decide +kernel
theorem dX11_adds_11 : decode cX11_adds 11 = .ok (.iconst 0, 1) := by decide +kernel
theorem dX11_adds_12 : decode cX11_adds 12 = .ok (.iload_n 1, 1) := by decide +kernel
theorem dX11_adds_13 : decode cX11_adds 13 = .ok (.invokevirtual 82, 3) := by decide +kernel
theorem dX11_adds_16 : decode cX11_adds 16 = .ok (.aload_n 0, 1) := by decide +kernel
theorem dX11_adds_17 : decode cX11_adds 17 = .ok (.iload 5, 2) := by decide +kernel
theorem dX11_adds_19 : decode cX11_adds 19 = .ok (.iconst 1, 1) := by decide +kernel
theorem dX11_adds_20 : decode cX11_adds 20 = .ok (.iload_n 2, 1) := by decide +kernel
theorem dX11_adds_21 : decode cX11_adds 21 = .ok (.invokevirtual 82, 3) := by decide +kernel
theorem dX11_adds_24 : decode cX11_adds 24 = .ok (.aload_n 0, 1) := by decide +kernel
theorem dX11_adds_25 : decode cX11_adds 25 = .ok (.iload 5, 2) := by decide +kernel
theorem dX11_adds_27 : decode cX11_adds 27 = .ok (.iconst 2, 1) := by decide +kernel
theorem dX11_adds_28 : decode cX11_adds 28 = .ok (.iload_n 3, 1) := by decide +kernel
theorem dX11_adds_29 : decode cX11_adds 29 = .ok (.invokevirtual 82, 3) := by decide +kernel
theorem dX11_adds_32 : decode cX11_adds 32 = .ok (.aload_n 0, 1) := by decide +kernel
theorem dX11_adds_33 : decode cX11_adds 33 = .ok (.iload 5, 2) := by decide +kernel
theorem dX11_adds_35 : decode cX11_adds 35 = .ok (.iconst 3, 1) := by decide +kernel
theorem dX11_adds_36 : decode cX11_adds 36 = .ok (.iload 4, 2) := by decide +kernel
theorem dX11_adds_38 : decode cX11_adds 38 = .ok (.invokevirtual 82, 3) := by decide +kernel
theorem dX11_adds_41 : decode cX11_adds 41 = .ok (.aload_n 0, 1) := by decide +kernel
theorem dX11_adds_42 : decode cX11_adds 42 = .ok (.iload 5, 2) := by decide +kernel
theorem dX11_adds_44 : decode cX11_adds 44 = .ok (.iconst 4, 1) := by decide +kernel
theorem dX11_adds_45 : decode cX11_adds 45 = .ok (.iconst 0, 1) := by decide +kernel
theorem dX11_adds_46 : decode cX11_adds 46 = .ok (.invokevirtual 82, 3) := by decide +kernel
theorem dX11_adds_49 : decode cX11_adds 49 = .ok (.aload_n 0, 1) := by decide +kernel
theorem dX11_adds_50 : decode cX11_adds 50 = .ok (.getfield 7, 3) := by decide +kernel
theorem dX11_adds_53 : decode cX11_adds 53 = .ok (.iconst 2, 1) := by decide +kernel
theorem dX11_adds_54 : decode cX11_adds 54 = .ok (.dup2, 1) := by decide +kernel
theorem dX11_adds_55 : decode cX11_adds 55 = .ok (.iaload, 1) := by decide +kernel
theorem dX11_adds_56 : decode cX11_adds 56 = .ok (.iconst 1, 1) := by decide +kernel
theorem dX11_adds_57 : decode cX11_adds 57 = .ok (.iadd, 1) := by decide +kernel
theorem dX11_adds_58 : decode cX11_adds 58 = .ok (.iastore, 1) := by decide +kernel
theorem dX11_adds_59 : decode cX11_adds 59 = .ok (.return_, 1) := by decide +kernel
theorem dX11_person_0 : decode cX11_person 0 = .ok (.iload_n 1, 1) := by decide +kernel
theorem dX11_person_1 : decode cX11_person 1 = .ok (.invokestatic 86, 3) := by decide +kernel
theorem dX11_person_4 : decode cX11_person 4 = .ok (.ifCond .ne 10, 3) := by decide +kernel
theorem dX11_person_7 : decode cX11_person 7 = .ok (.aload_n 0, 1) := by decide +kernel
theorem dX11_person_8 : decode cX11_person 8 = .ok (.ldc 44, 2) := by decide +kernel
theorem dX11_person_10 : decode cX11_person 10 = .ok (.invokevirtual 57, 3) := by decide +kernel
theorem dX11_person_13 : decode cX11_person 13 = .ok (.ireturn, 1) := by decide +kernel
theorem dX11_person_14 : decode cX11_person 14 = .ok (.aload_n 0, 1) := by decide +kernel
theorem dX11_person_15 : decode cX11_person 15 = .ok (.getfield 7, 3) := by decide +kernel
theorem dX11_person_18 : decode cX11_person 18 = .ok (.iconst 2, 1) := by decide +kernel
theorem dX11_person_19 : decode cX11_person 19 = .ok (.iaload, 1) := by decide +kernel
theorem dX11_person_20 : decode cX11_person 20 = .ok (.bipush 8, 2) := by decide +kernel
theorem dX11_person_22 : decode cX11_person 22 = .ok (.if_icmp .ne 10, 3) := by decide +kernel
theorem dX11_person_25 : decode cX11_person 25 = .ok (.aload_n 0, 1) := by decide +kernel
theorem dX11_person_26 : decode cX11_person 26 = .ok (.ldc 89, 2) := by decide +kernel
theorem dX11_person_28 : decode cX11_person 28 = .ok (.invokevirtual 57, 3) := by decide +kernel
theorem dX11_person_31 : decode cX11_person 31 = .ok (.ireturn, 1) := by decide +kernel
theorem dX11_person_32 : decode cX11_person 32 = .ok (.aload_n 0, 1) := by decide +kernel
theorem dX11_person_33 : decode cX11_person 33 = .ok (.iload_n 1, 1) := by decide +kernel
theorem dX11_person_34 : decode cX11_person 34 = .ok (.iconst 0, 1) := by decide +kernel
theorem dX11_person_35 : decode cX11_person 35 = .ok (.iconst 0, 1) := by decide +kernel
theorem dX11_person_36 : decode cX11_person 36 = .ok (.iconst (-1), 1) := by decide +kernel
theorem dX11_person_37 : decode cX11_person 37 = .ok (.invokevirtual 90, 3) := by decide +kernel
theorem dX11_person_40 : decode cX11_person 40 = .ok (.aload_n 0, 1) := by decide +kernel
theorem dX11_person_41 : decode cX11_person 41 = .ok (.getfield 7, 3) := by decide +kernel
theorem dX11_person_44 : decode cX11_person 44 = .ok (.iconst 2, 1) := by decide +kernel
theorem dX11_person_45 : decode cX11_person 45 = .ok (.iaload, 1) := by decide +kernel
theorem dX11_person_46 : decode cX11_person 46 = .ok (.iconst 1, 1) := by decide +kernel
theorem dX11_person_47 : decode cX11_person 47 = .ok (.isub, 1) := by decide +kernel
theorem dX11_person_48 : decode cX11_person 48 = .ok (.ireturn, 1) := by decide +kernel
theorem dX11_of_0 : decode cX11_of 0 = .ok (.aload_n 0, 1) := by decide +kernel
theorem dX11_of_1 : decode cX11_of 1 = .ok (.iload_n 1, 1) := by decide +kernel
theorem dX11_of_2 : decode cX11_of 2 = .ok (.invokevirtual 94, 3) := by decide +kernel
theorem dX11_of_5 : decode cX11_of 5 = .ok (.ifCond .eq 13, 3) := by decide +kernel
theorem dX11_of_8 : decode cX11_of 8 = .ok (.iload_n 2, 1) := by decide +kernel
theorem dX11_of_9 : decode cX11_of 9 = .ok (.iconst 0, 1) := by decide +kernel
theorem dX11_of_10 : decode cX11_of 10 = .ok (.bipush 8, 2) := by decide +kernel
theorem dX11_of_12 : decode cX11_of 12 = .ok (.invokestatic 45, 3) := by decide +kernel
theorem dX11_of_15 : decode cX11_of 15 = .ok (.ifCond .ne 10, 3) := by decide +kernel
theorem dX11_of_18 : decode cX11_of 18 = .ok (.aload_n 0, 1) := by decide +kernel
theorem dX11_of_19 : decode cX11_of 19 = .ok (.ldc 44, 2) := by decide +kernel
theorem dX11_of_21 : decode cX11_of 21 = .ok (.invokevirtual 57, 3) := by decide +kernel
theorem dX11_of_24 : decode cX11_of 24 = .ok (.ireturn, 1) := by decide +kernel
theorem dX11_of_25 : decode cX11_of 25 = .ok (.iload_n 2, 1) := by decide +kernel
theorem dX11_of_26 : decode cX11_of 26 = .ok (.tableswitch 82 5 8 #[30, 36, 42, 71], 30) := by decide +kernel
theorem dX11_of_56 : decode cX11_of 56 = .ok (.aload_n 0, 1) := by decide +kernel
theorem dX11_of_57 : decode cX11_of 57 = .ok (.iload_n 1, 1) := by decide +kernel
theorem dX11_of_58 : decode cX11_of 58 = .ok (.invokevirtual 70, 3) := by decide +kernel
theorem dX11_of_61 : decode cX11_of 61 = .ok (.ireturn, 1) := by decide +kernel
theorem dX11_of_62 : decode cX11_of 62 = .ok (.aload_n 0, 1) := by decide +kernel
theorem dX11_of_63 : decode cX11_of 63 = .ok (.iload_n 1, 1) := by decide +kernel
theorem dX11_of_64 : decode cX11_of 64 = .ok (.invokevirtual 97, 3) := by decide +kernel
theorem dX11_of_67 : decode cX11_of 67 = .ok (.ireturn, 1) := by decide +kernel
theorem dX11_of_68 : decode cX11_of 68 = .ok (.aload_n 0, 1) := by decide +kernel
theorem dX11_of_69 : decode cX11_of 69 = .ok (.iload_n 1, 1) := by decide +kernel
theorem dX11_of_70 : decode cX11_of 70 = .ok (.iconst 1, 1) := by decide +kernel
theorem dX11_of_71 : decode cX11_of 71 = .ok (.invokevirtual 61, 3) := by decide +kernel
theorem dX11_of_74 : decode cX11_of 74 = .ok (.bipush 70, 2) := by decide +kernel
theorem dX11_of_76 : decode cX11_of 76 = .ok (.if_icmp .ne 7, 3) := by decide +kernel
theorem dX11_of_79 : decode cX11_of 79 = .ok (.iconst (-1), 1) := by decide +kernel
theorem dX11_of_80 : decode cX11_of 80 = .ok (.goto 16, 3) := by decide +kernel
theorem dX11_of_83 : decode cX11_of 83 = .ok (.aload_n 0, 1) := by decide +kernel
theorem dX11_of_84 : decode cX11_of 84 = .ok (.iload_n 1, 1) := by decide +kernel
theorem dX11_of_85 : decode cX11_of 85 = .ok (.aload_n 0, 1) := by decide +kernel
theorem dX11_of_86 : decode cX11_of 86 = .ok (.iload_n 1, 1) := by decide +kernel
theorem dX11_of_87 : decode cX11_of 87 = .ok (.iconst 1, 1) := by decide +kernel
theorem dX11_of_88 : decode cX11_of 88 = .ok (.invokevirtual 61, 3) := by decide +kernel
theorem dX11_of_91 : decode cX11_of 91 = .ok (.iconst 1, 1) := by decide +kernel
theorem dX11_of_92 : decode cX11_of 92 = .ok (.iadd, 1) := by decide +kernel
theorem dX11_of_93 : decode cX11_of 93 = .ok (.invokevirtual 100, 3) := by decide +kernel
theorem dX11_of_96 : decode cX11_of 96 = .ok (.ireturn, 1) := by decide +kernel
theorem dX11_of_97 : decode cX11_of 97 = .ok (.aload_n 0, 1) := by decide +kernel
theorem dX11_of_98 : decode cX11_of 98 = .ok (.aload_n 0, 1) := by decide +kernel
theorem dX11_of_99 : decode cX11_of 99 = .ok (.iload_n 1, 1) := by decide +kernel
theorem dX11_of_100 : decode cX11_of 100 = .ok (.iconst 2, 1) := by decide +kernel
theorem dX11_of_101 : decode cX11_of 101 = .ok (.invokevirtual 61, 3) := by decide +kernel
theorem dX11_of_104 : decode cX11_of 104 = .ok (.invokevirtual 103, 3) := by decide +kernel
theorem dX11_of_107 : decode cX11_of 107 = .ok (.ireturn, 1) := by decide +kernel
theorem dX11_of_108 : decode cX11_of 108 = .ok (.aload_n 0, 1) := by decide +kernel
theorem dX11_of_109 : decode cX11_of 109 = .ok (.iload_n 1, 1) := by decide +kernel
theorem dX11_of_110 : decode cX11_of 110 = .ok (.iload_n 2, 1) := by decide +kernel
theorem dX11_of_111 : decode cX11_of 111 = .ok (.invokevirtual 61, 3) := by decide +kernel
theorem dX11_of_114 : decode cX11_of 114 = .ok (.ireturn, 1) := by decide +kernel
theorem dX11_isPart_0 : decode cX11_isPart 0 = .ok (.iload_n 1, 1) := by decide +kernel
theorem dX11_isPart_1 : decode cX11_isPart 1 = .ok (.tableswitch 62 1 3 #[27, 35, 43], 27) := by decide +kernel
theorem dX11_isPart_28 : decode cX11_isPart 28 = .ok (.iload_n 2, 1) := by decide +kernel
theorem dX11_isPart_29 : decode cX11_isPart 29 = .ok (.iconst 0, 1) := by decide +kernel
theorem dX11_isPart_30 : decode cX11_isPart 30 = .ok (.bipush 70, 2) := by decide +kernel
theorem dX11_isPart_32 : decode cX11_isPart 32 = .ok (.invokestatic 45, 3) := by decide +kernel
theorem dX11_isPart_35 : decode cX11_isPart 35 = .ok (.ireturn, 1) := by decide +kernel
theorem dX11_isPart_36 : decode cX11_isPart 36 = .ok (.iload_n 2, 1) := by decide +kernel
theorem dX11_isPart_37 : decode cX11_isPart 37 = .ok (.iconst 0, 1) := by decide +kernel
theorem dX11_isPart_38 : decode cX11_isPart 38 = .ok (.ldc 106, 2) := by decide +kernel
theorem dX11_isPart_40 : decode cX11_isPart 40 = .ok (.invokestatic 45, 3) := by decide +kernel
theorem dX11_isPart_43 : decode cX11_isPart 43 = .ok (.ireturn, 1) := by decide +kernel
theorem dX11_isPart_44 : decode cX11_isPart 44 = .ok (.iload_n 2, 1) := by decide +kernel
theorem dX11_isPart_45 : decode cX11_isPart 45 = .ok (.iconst (-1), 1) := by decide +kernel
theorem dX11_isPart_46 : decode cX11_isPart 46 = .ok (.if_icmp .eq 11, 3) := by decide +kernel
theorem dX11_isPart_49 : decode cX11_isPart 49 = .ok (.aload_n 0, 1) := by decide +kernel
theorem dX11_isPart_50 : decode cX11_isPart 50 = .ok (.iload_n 2, 1) := by decide +kernel
theorem dX11_isPart_51 : decode cX11_isPart 51 = .ok (.invokevirtual 94, 3) := by decide +kernel
theorem dX11_isPart_54 : decode cX11_isPart 54 = .ok (.ifCond .eq 7, 3) := by decide +kernel
theorem dX11_isPart_57 : decode cX11_isPart 57 = .ok (.iconst 1, 1) := by decide +kernel
theorem dX11_isPart_58 : decode cX11_isPart 58 = .ok (.goto 4, 3) := by decide +kernel
theorem dX11_isPart_61 : decode cX11_isPart 61 = .ok (.iconst 0, 1) := by decide +kernel
theorem dX11_isPart_62 : decode cX11_isPart 62 = .ok (.ireturn, 1) := by decide +kernel
theorem dX11_isPart_63 : decode cX11_isPart 63 = .ok (.iload_n 1, 1) := by decide +kernel
theorem dX11_isPart_64 : decode cX11_isPart 64 = .ok (.iconst 4, 1) := by decide +kernel
theorem dX11_isPart_65 : decode cX11_isPart 65 = .ok (.if_icmp .ne 18, 3) := by decide +kernel
theorem dX11_isPart_68 : decode cX11_isPart 68 = .ok (.iload_n 2, 1) := by decide +kernel
theorem dX11_isPart_69 : decode cX11_isPart 69 = .ok (.iconst 0, 1) := by decide +kernel
theorem dX11_isPart_70 : decode cX11_isPart 70 = .ok (.sipush 999, 3) := by decide +kernel
theorem dX11_isPart_73 : decode cX11_isPart 73 = .ok (.invokestatic 45, 3) := by decide +kernel
theorem dX11_isPart_76 : decode cX11_isPart 76 = .ok (.ifCond .eq 7, 3) := by decide +kernel
theorem dX11_isPart_79 : decode cX11_isPart 79 = .ok (.iconst 1, 1) := by decide +kernel
theorem dX11_isPart_80 : decode cX11_isPart 80 = .ok (.goto 4, 3) := by decide +kernel
theorem dX11_isPart_83 : decode cX11_isPart 83 = .ok (.iconst 0, 1) := by decide +kernel
theorem dX11_isPart_84 : decode cX11_isPart 84 = .ok (.ireturn, 1) := by decide +kernel
theorem dX11_set_0 : decode cX11_set 0 = .ok (.aload_n 0, 1) := by decide +kernel
theorem dX11_set_1 : decode cX11_set 1 = .ok (.iload_n 1, 1) := by decide +kernel
theorem dX11_set_2 : decode cX11_set 2 = .ok (.invokevirtual 94, 3) := by decide +kernel
theorem dX11_set_5 : decode cX11_set 5 = .ok (.ifCond .eq 28, 3) := by decide +kernel
theorem dX11_set_8 : decode cX11_set 8 = .ok (.aload_n 0, 1) := by decide +kernel
theorem dX11_set_9 : decode cX11_set 9 = .ok (.iload_n 2, 1) := by decide +kernel
theorem dX11_set_10 : decode cX11_set 10 = .ok (.iload_n 3, 1) := by decide +kernel
theorem dX11_set_11 : decode cX11_set 11 = .ok (.invokevirtual 107, 3) := by decide +kernel
theorem dX11_set_14 : decode cX11_set 14 = .ok (.ifCond .eq 19, 3) := by decide +kernel
theorem dX11_set_17 : decode cX11_set 17 = .ok (.aload_n 0, 1) := by decide +kernel
theorem dX11_set_18 : decode cX11_set 18 = .ok (.bipush 19, 2) := by decide +kernel
theorem dX11_set_20 : decode cX11_set 20 = .ok (.iconst 5, 1) := by decide +kernel
theorem dX11_set_21 : decode cX11_set 21 = .ok (.iload_n 1, 1) := by decide +kernel
theorem dX11_set_22 : decode cX11_set 22 = .ok (.imul, 1) := by decide +kernel
theorem dX11_set_23 : decode cX11_set 23 = .ok (.iadd, 1) := by decide +kernel
theorem dX11_set_24 : decode cX11_set 24 = .ok (.iload_n 2, 1) := by decide +kernel
theorem dX11_set_25 : decode cX11_set 25 = .ok (.iadd, 1) := by decide +kernel
theorem dX11_set_26 : decode cX11_set 26 = .ok (.iload_n 3, 1) := by decide +kernel
theorem dX11_set_27 : decode cX11_set 27 = .ok (.invokevirtual 53, 3) := by decide +kernel
theorem dX11_set_30 : decode cX11_set 30 = .ok (.goto 9, 3) := by decide +kernel
theorem dX11_set_33 : decode cX11_set 33 = .ok (.aload_n 0, 1) := by decide +kernel
theorem dX11_set_34 : decode cX11_set 34 = .ok (.ldc 44, 2) := by decide +kernel
theorem dX11_set_36 : decode cX11_set 36 = .ok (.invokevirtual 57, 3) := by decide +kernel
theorem dX11_set_39 : decode cX11_set 39 = .ok (.ireturn, 1) := by decide +kernel
theorem dX11_turn_0 : decode cX11_turn 0 = .ok (.aload_n 0, 1) := by decide +kernel
theorem dX11_turn_1 : decode cX11_turn 1 = .ok (.iload_n 1, 1) := by decide +kernel
theorem dX11_turn_2 : decode cX11_turn 2 = .ok (.invokevirtual 94, 3) := by decide +kernel
theorem dX11_turn_5 : decode cX11_turn 5 = .ok (.ifCond .eq 24, 3) := by decide +kernel
theorem dX11_turn_8 : decode cX11_turn 8 = .ok (.iload_n 2, 1) := by decide +kernel
theorem dX11_turn_9 : decode cX11_turn 9 = .ok (.invokestatic 86, 3) := by decide +kernel
theorem dX11_turn_12 : decode cX11_turn 12 = .ok (.ifCond .eq 17, 3) := by decide +kernel
theorem dX11_turn_15 : decode cX11_turn 15 = .ok (.aload_n 0, 1) := by decide +kernel
theorem dX11_turn_16 : decode cX11_turn 16 = .ok (.bipush 19, 2) := by decide +kernel
theorem dX11_turn_18 : decode cX11_turn 18 = .ok (.iconst 5, 1) := by decide +kernel
theorem dX11_turn_19 : decode cX11_turn 19 = .ok (.iload_n 1, 1) := by decide +kernel
theorem dX11_turn_20 : decode cX11_turn 20 = .ok (.imul, 1) := by decide +kernel
theorem dX11_turn_21 : decode cX11_turn 21 = .ok (.iadd, 1) := by decide +kernel
theorem dX11_turn_22 : decode cX11_turn 22 = .ok (.iload_n 2, 1) := by decide +kernel
theorem dX11_turn_23 : decode cX11_turn 23 = .ok (.invokevirtual 53, 3) := by decide +kernel
theorem dX11_turn_26 : decode cX11_turn 26 = .ok (.goto 9, 3) := by decide +kernel
theorem dX11_turn_29 : decode cX11_turn 29 = .ok (.aload_n 0, 1) := by decide +kernel
theorem dX11_turn_30 : decode cX11_turn 30 = .ok (.ldc 44, 2) := by decide +kernel
theorem dX11_turn_32 : decode cX11_turn 32 = .ok (.invokevirtual 57, 3) := by decide +kernel
theorem dX11_turn_35 : decode cX11_turn 35 = .ok (.ireturn, 1) := by decide +kernel
theorem dX11_as_0 : decode cX11_as 0 = .ok (.aload_n 0, 1) := by decide +kernel
theorem dX11_as_1 : decode cX11_as 1 = .ok (.iload_n 1, 1) := by decide +kernel
theorem dX11_as_2 : decode cX11_as 2 = .ok (.invokevirtual 94, 3) := by decide +kernel
theorem dX11_as_5 : decode cX11_as 5 = .ok (.ifCond .eq 10, 3) := by decide +kernel
theorem dX11_as_8 : decode cX11_as 8 = .ok (.iload_n 2, 1) := by decide +kernel
theorem dX11_as_9 : decode cX11_as 9 = .ok (.invokestatic 86, 3) := by decide +kernel
theorem dX11_as_12 : decode cX11_as 12 = .ok (.ifCond .ne 10, 3) := by decide +kernel
theorem dX11_as_15 : decode cX11_as 15 = .ok (.aload_n 0, 1) := by decide +kernel
theorem dX11_as_16 : decode cX11_as 16 = .ok (.ldc 44, 2) := by decide +kernel
theorem dX11_as_18 : decode cX11_as 18 = .ok (.invokevirtual 57, 3) := by decide +kernel
theorem dX11_as_21 : decode cX11_as 21 = .ok (.ireturn, 1) := by decide +kernel
theorem dX11_as_22 : decode cX11_as 22 = .ok (.aload_n 0, 1) := by decide +kernel
theorem dX11_as_23 : decode cX11_as 23 = .ok (.iload_n 1, 1) := by decide +kernel
theorem dX11_as_24 : decode cX11_as 24 = .ok (.iconst 0, 1) := by decide +kernel
theorem dX11_as_25 : decode cX11_as 25 = .ok (.invokevirtual 61, 3) := by decide +kernel
theorem dX11_as_28 : decode cX11_as 28 = .ok (.istore_n 3, 1) := by decide +kernel
theorem dX11_as_29 : decode cX11_as 29 = .ok (.iload_n 2, 1) := by decide +kernel
theorem dX11_as_30 : decode cX11_as 30 = .ok (.ifCond .eq 28, 3) := by decide +kernel
theorem dX11_as_33 : decode cX11_as 33 = .ok (.iload_n 2, 1) := by decide +kernel
theorem dX11_as_34 : decode cX11_as 34 = .ok (.iload_n 3, 1) := by decide +kernel
theorem dX11_as_35 : decode cX11_as 35 = .ok (.if_icmp .eq 23, 3) := by decide +kernel
theorem dX11_as_38 : decode cX11_as 38 = .ok (.iload_n 2, 1) := by decide +kernel
theorem dX11_as_39 : decode cX11_as 39 = .ok (.iconst 1, 1) := by decide +kernel
theorem dX11_as_40 : decode cX11_as 40 = .ok (.if_icmp .ne 8, 3) := by decide +kernel
theorem dX11_as_43 : decode cX11_as 43 = .ok (.iload_n 3, 1) := by decide +kernel
theorem dX11_as_44 : decode cX11_as 44 = .ok (.iconst 4, 1) := by decide +kernel
theorem dX11_as_45 : decode cX11_as 45 = .ok (.if_icmp .eq 13, 3) := by decide +kernel
theorem dX11_as_48 : decode cX11_as 48 = .ok (.iload_n 2, 1) := by decide +kernel
theorem dX11_as_49 : decode cX11_as 49 = .ok (.iconst 2, 1) := by decide +kernel
theorem dX11_as_50 : decode cX11_as 50 = .ok (.if_icmp .ne 12, 3) := by decide +kernel
theorem dX11_as_53 : decode cX11_as 53 = .ok (.iload_n 3, 1) := by decide +kernel
theorem dX11_as_54 : decode cX11_as 54 = .ok (.iconst 5, 1) := by decide +kernel
theorem dX11_as_55 : decode cX11_as 55 = .ok (.if_icmp .ne 7, 3) := by decide +kernel
theorem dX11_as_58 : decode cX11_as 58 = .ok (.iconst 1, 1) := by decide +kernel
theorem dX11_as_59 : decode cX11_as 59 = .ok (.goto 4, 3) := by decide +kernel
theorem dX11_as_62 : decode cX11_as 62 = .ok (.iconst 0, 1) := by decide +kernel
theorem dX11_as_63 : decode cX11_as 63 = .ok (.istore 4, 2) := by decide +kernel
theorem dX11_as_65 : decode cX11_as 65 = .ok (.iload 4, 2) := by decide +kernel
theorem dX11_as_67 : decode cX11_as 67 = .ok (.ifCond .eq 12, 3) := by decide +kernel
theorem dX11_as_70 : decode cX11_as 70 = .ok (.aload_n 0, 1) := by decide +kernel
theorem dX11_as_71 : decode cX11_as 71 = .ok (.iload_n 1, 1) := by decide +kernel
theorem dX11_as_72 : decode cX11_as 72 = .ok (.iconst 1, 1) := by decide +kernel
theorem dX11_as_73 : decode cX11_as 73 = .ok (.invokevirtual 61, 3) := by decide +kernel
theorem dX11_as_76 : decode cX11_as 76 = .ok (.goto 9, 3) := by decide +kernel
theorem dX11_as_79 : decode cX11_as 79 = .ok (.aload_n 0, 1) := by decide +kernel
theorem dX11_as_80 : decode cX11_as 80 = .ok (.ldc 111, 2) := by decide +kernel
theorem dX11_as_82 : decode cX11_as 82 = .ok (.invokevirtual 57, 3) := by decide +kernel
theorem dX11_as_85 : decode cX11_as 85 = .ok (.ireturn, 1) := by decide +kernel
theorem dX11_has_0 : decode cX11_has 0 = .ok (.aload_n 0, 1) := by decide +kernel
theorem dX11_has_1 : decode cX11_has 1 = .ok (.iload_n 1, 1) := by decide +kernel
theorem dX11_has_2 : decode cX11_has 2 = .ok (.iconst 2, 1) := by decide +kernel
theorem dX11_has_3 : decode cX11_has 3 = .ok (.invokevirtual 61, 3) := by decide +kernel
theorem dX11_has_6 : decode cX11_has 6 = .ok (.iload_n 2, 1) := by decide +kernel
theorem dX11_has_7 : decode cX11_has 7 = .ok (.ishr, 1) := by decide +kernel
theorem dX11_has_8 : decode cX11_has 8 = .ok (.iconst 1, 1) := by decide +kernel
theorem dX11_has_9 : decode cX11_has 9 = .ok (.iand, 1) := by decide +kernel
theorem dX11_has_10 : decode cX11_has 10 = .ok (.iconst 1, 1) := by decide +kernel
theorem dX11_has_11 : decode cX11_has 11 = .ok (.if_icmp .ne 7, 3) := by decide +kernel
theorem dX11_has_14 : decode cX11_has 14 = .ok (.iconst 1, 1) := by decide +kernel
theorem dX11_has_15 : decode cX11_has 15 = .ok (.goto 4, 3) := by decide +kernel
theorem dX11_has_18 : decode cX11_has 18 = .ok (.iconst 0, 1) := by decide +kernel
theorem dX11_has_19 : decode cX11_has 19 = .ok (.ireturn, 1) := by decide +kernel
theorem dX11_give_0 : decode cX11_give 0 = .ok (.aload_n 0, 1) := by decide +kernel
theorem dX11_give_1 : decode cX11_give 1 = .ok (.iload_n 1, 1) := by decide +kernel
theorem dX11_give_2 : decode cX11_give 2 = .ok (.invokevirtual 94, 3) := by decide +kernel
theorem dX11_give_5 : decode cX11_give 5 = .ok (.ifCond .eq 10, 3) := by decide +kernel
theorem dX11_give_8 : decode cX11_give 8 = .ok (.iload_n 2, 1) := by decide +kernel
theorem dX11_give_9 : decode cX11_give 9 = .ok (.invokestatic 49, 3) := by decide +kernel
theorem dX11_give_12 : decode cX11_give 12 = .ok (.ifCond .ne 10, 3) := by decide +kernel
theorem dX11_give_15 : decode cX11_give 15 = .ok (.aload_n 0, 1) := by decide +kernel
theorem dX11_give_16 : decode cX11_give 16 = .ok (.ldc 44, 2) := by decide +kernel
theorem dX11_give_18 : decode cX11_give 18 = .ok (.invokevirtual 57, 3) := by decide +kernel
theorem dX11_give_21 : decode cX11_give 21 = .ok (.ireturn, 1) := by decide +kernel
theorem dX11_give_22 : decode cX11_give 22 = .ok (.aload_n 0, 1) := by decide +kernel
theorem dX11_give_23 : decode cX11_give 23 = .ok (.iload_n 1, 1) := by decide +kernel
theorem dX11_give_24 : decode cX11_give 24 = .ok (.iload_n 2, 1) := by decide +kernel
theorem dX11_give_25 : decode cX11_give 25 = .ok (.invokevirtual 112, 3) := by decide +kernel
theorem dX11_give_28 : decode cX11_give 28 = .ok (.ifCond .eq 7, 3) := by decide +kernel
theorem dX11_give_31 : decode cX11_give 31 = .ok (.iconst 0, 1) := by decide +kernel
theorem dX11_give_32 : decode cX11_give 32 = .ok (.goto 4, 3) := by decide +kernel
theorem dX11_give_35 : decode cX11_give 35 = .ok (.iconst 1, 1) := by decide +kernel
theorem dX11_give_36 : decode cX11_give 36 = .ok (.istore_n 3, 1) := by decide +kernel
theorem dX11_give_37 : decode cX11_give 37 = .ok (.aload_n 0, 1) := by decide +kernel
theorem dX11_give_38 : decode cX11_give 38 = .ok (.iload_n 1, 1) := by decide +kernel
theorem dX11_give_39 : decode cX11_give 39 = .ok (.iconst 2, 1) := by decide +kernel
theorem dX11_give_40 : decode cX11_give 40 = .ok (.aload_n 0, 1) := by decide +kernel
theorem dX11_give_41 : decode cX11_give 41 = .ok (.iload_n 1, 1) := by decide +kernel
theorem dX11_give_42 : decode cX11_give 42 = .ok (.iconst 2, 1) := by decide +kernel
theorem dX11_give_43 : decode cX11_give 43 = .ok (.invokevirtual 61, 3) := by decide +kernel
theorem dX11_give_46 : decode cX11_give 46 = .ok (.iconst 1, 1) := by decide +kernel
theorem dX11_give_47 : decode cX11_give 47 = .ok (.iload_n 2, 1) := by decide +kernel
theorem dX11_give_48 : decode cX11_give 48 = .ok (.ishl, 1) := by decide +kernel
theorem dX11_give_49 : decode cX11_give 49 = .ok (.ior, 1) := by decide +kernel
theorem dX11_give_50 : decode cX11_give 50 = .ok (.invokevirtual 82, 3) := by decide +kernel
theorem dX11_give_53 : decode cX11_give 53 = .ok (.iload_n 3, 1) := by decide +kernel
theorem dX11_give_54 : decode cX11_give 54 = .ok (.ireturn, 1) := by decide +kernel
theorem dX11_hand_0 : decode cX11_hand 0 = .ok (.aload_n 0, 1) := by decide +kernel
theorem dX11_hand_1 : decode cX11_hand 1 = .ok (.iload_n 1, 1) := by decide +kernel
theorem dX11_hand_2 : decode cX11_hand 2 = .ok (.invokevirtual 94, 3) := by decide +kernel
theorem dX11_hand_5 : decode cX11_hand 5 = .ok (.ifCond .eq 23, 3) := by decide +kernel
theorem dX11_hand_8 : decode cX11_hand 8 = .ok (.aload_n 0, 1) := by decide +kernel
theorem dX11_hand_9 : decode cX11_hand 9 = .ok (.iload_n 2, 1) := by decide +kernel
theorem dX11_hand_10 : decode cX11_hand 10 = .ok (.invokevirtual 94, 3) := by decide +kernel
theorem dX11_hand_13 : decode cX11_hand 13 = .ok (.ifCond .eq 15, 3) := by decide +kernel
theorem dX11_hand_16 : decode cX11_hand 16 = .ok (.iload_n 1, 1) := by decide +kernel
theorem dX11_hand_17 : decode cX11_hand 17 = .ok (.iload_n 2, 1) := by decide +kernel
theorem dX11_hand_18 : decode cX11_hand 18 = .ok (.if_icmp .eq 10, 3) := by decide +kernel
theorem dX11_hand_21 : decode cX11_hand 21 = .ok (.iload_n 3, 1) := by decide +kernel
theorem dX11_hand_22 : decode cX11_hand 22 = .ok (.invokestatic 49, 3) := by decide +kernel
theorem dX11_hand_25 : decode cX11_hand 25 = .ok (.ifCond .ne 10, 3) := by decide +kernel
theorem dX11_hand_28 : decode cX11_hand 28 = .ok (.aload_n 0, 1) := by decide +kernel
theorem dX11_hand_29 : decode cX11_hand 29 = .ok (.ldc 44, 2) := by decide +kernel
theorem dX11_hand_31 : decode cX11_hand 31 = .ok (.invokevirtual 57, 3) := by decide +kernel
theorem dX11_hand_34 : decode cX11_hand 34 = .ok (.ireturn, 1) := by decide +kernel
theorem dX11_hand_35 : decode cX11_hand 35 = .ok (.aload_n 0, 1) := by decide +kernel
theorem dX11_hand_36 : decode cX11_hand 36 = .ok (.iload_n 1, 1) := by decide +kernel
theorem dX11_hand_37 : decode cX11_hand 37 = .ok (.iload_n 3, 1) := by decide +kernel
theorem dX11_hand_38 : decode cX11_hand 38 = .ok (.invokevirtual 112, 3) := by decide +kernel
theorem dX11_hand_41 : decode cX11_hand 41 = .ok (.ifCond .ne 10, 3) := by decide +kernel
theorem dX11_hand_44 : decode cX11_hand 44 = .ok (.aload_n 0, 1) := by decide +kernel
theorem dX11_hand_45 : decode cX11_hand 45 = .ok (.ldc 115, 2) := by decide +kernel
theorem dX11_hand_47 : decode cX11_hand 47 = .ok (.invokevirtual 57, 3) := by decide +kernel
theorem dX11_hand_50 : decode cX11_hand 50 = .ok (.ireturn, 1) := by decide +kernel
theorem dX11_hand_51 : decode cX11_hand 51 = .ok (.aload_n 0, 1) := by decide +kernel
theorem dX11_hand_52 : decode cX11_hand 52 = .ok (.iload_n 1, 1) := by decide +kernel
theorem dX11_hand_53 : decode cX11_hand 53 = .ok (.iconst 2, 1) := by decide +kernel
theorem dX11_hand_54 : decode cX11_hand 54 = .ok (.aload_n 0, 1) := by decide +kernel
theorem dX11_hand_55 : decode cX11_hand 55 = .ok (.iload_n 1, 1) := by decide +kernel
theorem dX11_hand_56 : decode cX11_hand 56 = .ok (.iconst 2, 1) := by decide +kernel
theorem dX11_hand_57 : decode cX11_hand 57 = .ok (.invokevirtual 61, 3) := by decide +kernel
theorem dX11_hand_60 : decode cX11_hand 60 = .ok (.iload_n 3, 1) := by decide +kernel
theorem dX11_hand_61 : decode cX11_hand 61 = .ok (.invokestatic 67, 3) := by decide +kernel
theorem dX11_hand_64 : decode cX11_hand 64 = .ok (.invokevirtual 82, 3) := by decide +kernel
theorem dX11_hand_67 : decode cX11_hand 67 = .ok (.aload_n 0, 1) := by decide +kernel
theorem dX11_hand_68 : decode cX11_hand 68 = .ok (.iload_n 2, 1) := by decide +kernel
theorem dX11_hand_69 : decode cX11_hand 69 = .ok (.iconst 2, 1) := by decide +kernel
theorem dX11_hand_70 : decode cX11_hand 70 = .ok (.aload_n 0, 1) := by decide +kernel
theorem dX11_hand_71 : decode cX11_hand 71 = .ok (.iload_n 2, 1) := by decide +kernel
theorem dX11_hand_72 : decode cX11_hand 72 = .ok (.iconst 2, 1) := by decide +kernel
theorem dX11_hand_73 : decode cX11_hand 73 = .ok (.invokevirtual 61, 3) := by decide +kernel
theorem dX11_hand_76 : decode cX11_hand 76 = .ok (.iconst 1, 1) := by decide +kernel
theorem dX11_hand_77 : decode cX11_hand 77 = .ok (.iload_n 3, 1) := by decide +kernel
theorem dX11_hand_78 : decode cX11_hand 78 = .ok (.ishl, 1) := by decide +kernel
theorem dX11_hand_79 : decode cX11_hand 79 = .ok (.ior, 1) := by decide +kernel
theorem dX11_hand_80 : decode cX11_hand 80 = .ok (.invokevirtual 82, 3) := by decide +kernel
theorem dX11_hand_83 : decode cX11_hand 83 = .ok (.iconst 1, 1) := by decide +kernel
theorem dX11_hand_84 : decode cX11_hand 84 = .ok (.ireturn, 1) := by decide +kernel
theorem dX11_crosses_0 : decode cX11_crosses 0 = .ok (.aload_n 0, 1) := by decide +kernel
theorem dX11_crosses_1 : decode cX11_crosses 1 = .ok (.iload_n 1, 1) := by decide +kernel
theorem dX11_crosses_2 : decode cX11_crosses 2 = .ok (.invokevirtual 97, 3) := by decide +kernel
theorem dX11_crosses_5 : decode cX11_crosses 5 = .ok (.istore_n 2, 1) := by decide +kernel
theorem dX11_crosses_6 : decode cX11_crosses 6 = .ok (.iload_n 2, 1) := by decide +kernel
theorem dX11_crosses_7 : decode cX11_crosses 7 = .ok (.ifCond .lt 82, 3) := by decide +kernel
theorem dX11_crosses_10 : decode cX11_crosses 10 = .ok (.aload_n 0, 1) := by decide +kernel
theorem dX11_crosses_11 : decode cX11_crosses 11 = .ok (.iload_n 1, 1) := by decide +kernel
theorem dX11_crosses_12 : decode cX11_crosses 12 = .ok (.iconst 3, 1) := by decide +kernel
theorem dX11_crosses_13 : decode cX11_crosses 13 = .ok (.invokevirtual 61, 3) := by decide +kernel
theorem dX11_crosses_16 : decode cX11_crosses 16 = .ok (.istore_n 3, 1) := by decide +kernel
theorem dX11_crosses_17 : decode cX11_crosses 17 = .ok (.aload_n 0, 1) := by decide +kernel
theorem dX11_crosses_18 : decode cX11_crosses 18 = .ok (.iload_n 1, 1) := by decide +kernel
theorem dX11_crosses_19 : decode cX11_crosses 19 = .ok (.iconst 2, 1) := by decide +kernel
theorem dX11_crosses_20 : decode cX11_crosses 20 = .ok (.aload_n 0, 1) := by decide +kernel
theorem dX11_crosses_21 : decode cX11_crosses 21 = .ok (.iload_n 1, 1) := by decide +kernel
theorem dX11_crosses_22 : decode cX11_crosses 22 = .ok (.iconst 2, 1) := by decide +kernel
theorem dX11_crosses_23 : decode cX11_crosses 23 = .ok (.invokevirtual 61, 3) := by decide +kernel
theorem dX11_crosses_26 : decode cX11_crosses 26 = .ok (.iload_n 2, 1) := by decide +kernel
theorem dX11_crosses_27 : decode cX11_crosses 27 = .ok (.invokestatic 67, 3) := by decide +kernel
theorem dX11_crosses_30 : decode cX11_crosses 30 = .ok (.invokevirtual 82, 3) := by decide +kernel
theorem dX11_crosses_33 : decode cX11_crosses 33 = .ok (.aload_n 0, 1) := by decide +kernel
theorem dX11_crosses_34 : decode cX11_crosses 34 = .ok (.iload_n 1, 1) := by decide +kernel
theorem dX11_crosses_35 : decode cX11_crosses 35 = .ok (.iconst 4, 1) := by decide +kernel
theorem dX11_crosses_36 : decode cX11_crosses 36 = .ok (.aload_n 0, 1) := by decide +kernel
theorem dX11_crosses_37 : decode cX11_crosses 37 = .ok (.iload_n 1, 1) := by decide +kernel
theorem dX11_crosses_38 : decode cX11_crosses 38 = .ok (.iconst 4, 1) := by decide +kernel
theorem dX11_crosses_39 : decode cX11_crosses 39 = .ok (.invokevirtual 61, 3) := by decide +kernel
theorem dX11_crosses_42 : decode cX11_crosses 42 = .ok (.iconst 1, 1) := by decide +kernel
theorem dX11_crosses_43 : decode cX11_crosses 43 = .ok (.iadd, 1) := by decide +kernel
theorem dX11_crosses_44 : decode cX11_crosses 44 = .ok (.iconst 0, 1) := by decide +kernel
theorem dX11_crosses_45 : decode cX11_crosses 45 = .ok (.sipush 999, 3) := by decide +kernel
theorem dX11_crosses_48 : decode cX11_crosses 48 = .ok (.invokestatic 116, 3) := by decide +kernel
theorem dX11_crosses_51 : decode cX11_crosses 51 = .ok (.invokevirtual 82, 3) := by decide +kernel
theorem dX11_crosses_54 : decode cX11_crosses 54 = .ok (.iload_n 3, 1) := by decide +kernel
theorem dX11_crosses_55 : decode cX11_crosses 55 = .ok (.ifCond .ge 18, 3) := by decide +kernel
theorem dX11_crosses_58 : decode cX11_crosses 58 = .ok (.aload_n 0, 1) := by decide +kernel
theorem dX11_crosses_59 : decode cX11_crosses 59 = .ok (.getfield 7, 3) := by decide +kernel
theorem dX11_crosses_62 : decode cX11_crosses 62 = .ok (.iconst 1, 1) := by decide +kernel
theorem dX11_crosses_63 : decode cX11_crosses 63 = .ok (.dup2, 1) := by decide +kernel
theorem dX11_crosses_64 : decode cX11_crosses 64 = .ok (.iaload, 1) := by decide +kernel
theorem dX11_crosses_65 : decode cX11_crosses 65 = .ok (.iconst 1, 1) := by decide +kernel
theorem dX11_crosses_66 : decode cX11_crosses 66 = .ok (.iload_n 2, 1) := by decide +kernel
theorem dX11_crosses_67 : decode cX11_crosses 67 = .ok (.ishl, 1) := by decide +kernel
theorem dX11_crosses_68 : decode cX11_crosses 68 = .ok (.ior, 1) := by decide +kernel
theorem dX11_crosses_69 : decode cX11_crosses 69 = .ok (.iastore, 1) := by decide +kernel
theorem dX11_crosses_70 : decode cX11_crosses 70 = .ok (.goto 19, 3) := by decide +kernel
theorem dX11_crosses_73 : decode cX11_crosses 73 = .ok (.aload_n 0, 1) := by decide +kernel
theorem dX11_crosses_74 : decode cX11_crosses 74 = .ok (.iload_n 3, 1) := by decide +kernel
theorem dX11_crosses_75 : decode cX11_crosses 75 = .ok (.iconst 2, 1) := by decide +kernel
theorem dX11_crosses_76 : decode cX11_crosses 76 = .ok (.aload_n 0, 1) := by decide +kernel
theorem dX11_crosses_77 : decode cX11_crosses 77 = .ok (.iload_n 3, 1) := by decide +kernel
theorem dX11_crosses_78 : decode cX11_crosses 78 = .ok (.iconst 2, 1) := by decide +kernel
theorem dX11_crosses_79 : decode cX11_crosses 79 = .ok (.invokevirtual 61, 3) := by decide +kernel
theorem dX11_crosses_82 : decode cX11_crosses 82 = .ok (.iconst 1, 1) := by decide +kernel
theorem dX11_crosses_83 : decode cX11_crosses 83 = .ok (.iload_n 2, 1) := by decide +kernel
theorem dX11_crosses_84 : decode cX11_crosses 84 = .ok (.ishl, 1) := by decide +kernel
theorem dX11_crosses_85 : decode cX11_crosses 85 = .ok (.ior, 1) := by decide +kernel
theorem dX11_crosses_86 : decode cX11_crosses 86 = .ok (.invokevirtual 82, 3) := by decide +kernel
theorem dX11_crosses_89 : decode cX11_crosses 89 = .ok (.iload_n 2, 1) := by decide +kernel
theorem dX11_crosses_90 : decode cX11_crosses 90 = .ok (.ireturn, 1) := by decide +kernel
theorem dX11_border_0 : decode cX11_border 0 = .ok (.aload_n 0, 1) := by decide +kernel
theorem dX11_border_1 : decode cX11_border 1 = .ok (.iload_n 1, 1) := by decide +kernel
theorem dX11_border_2 : decode cX11_border 2 = .ok (.invokevirtual 94, 3) := by decide +kernel
theorem dX11_border_5 : decode cX11_border 5 = .ok (.ifCond .eq 11, 3) := by decide +kernel
theorem dX11_border_8 : decode cX11_border 8 = .ok (.aload_n 0, 1) := by decide +kernel
theorem dX11_border_9 : decode cX11_border 9 = .ok (.iload_n 1, 1) := by decide +kernel
theorem dX11_border_10 : decode cX11_border 10 = .ok (.invokevirtual 120, 3) := by decide +kernel
theorem dX11_border_13 : decode cX11_border 13 = .ok (.goto 9, 3) := by decide +kernel
theorem dX11_border_16 : decode cX11_border 16 = .ok (.aload_n 0, 1) := by decide +kernel
theorem dX11_border_17 : decode cX11_border 17 = .ok (.ldc 44, 2) := by decide +kernel
theorem dX11_border_19 : decode cX11_border 19 = .ok (.invokevirtual 57, 3) := by decide +kernel
theorem dX11_border_22 : decode cX11_border 22 = .ok (.ireturn, 1) := by decide +kernel
theorem dX11_ages_0 : decode cX11_ages 0 = .ok (.aload_n 0, 1) := by decide +kernel
theorem dX11_ages_1 : decode cX11_ages 1 = .ok (.iload_n 1, 1) := by decide +kernel
theorem dX11_ages_2 : decode cX11_ages 2 = .ok (.iconst 1, 1) := by decide +kernel
theorem dX11_ages_3 : decode cX11_ages 3 = .ok (.invokevirtual 61, 3) := by decide +kernel
theorem dX11_ages_6 : decode cX11_ages 6 = .ok (.iconst 1, 1) := by decide +kernel
theorem dX11_ages_7 : decode cX11_ages 7 = .ok (.iadd, 1) := by decide +kernel
theorem dX11_ages_8 : decode cX11_ages 8 = .ok (.istore_n 2, 1) := by decide +kernel
theorem dX11_ages_9 : decode cX11_ages 9 = .ok (.aload_n 0, 1) := by decide +kernel
theorem dX11_ages_10 : decode cX11_ages 10 = .ok (.iload_n 1, 1) := by decide +kernel
theorem dX11_ages_11 : decode cX11_ages 11 = .ok (.iload_n 2, 1) := by decide +kernel
theorem dX11_ages_12 : decode cX11_ages 12 = .ok (.invokevirtual 100, 3) := by decide +kernel
theorem dX11_ages_15 : decode cX11_ages 15 = .ok (.istore_n 3, 1) := by decide +kernel
theorem dX11_ages_16 : decode cX11_ages 16 = .ok (.aload_n 0, 1) := by decide +kernel
theorem dX11_ages_17 : decode cX11_ages 17 = .ok (.iload_n 1, 1) := by decide +kernel
theorem dX11_ages_18 : decode cX11_ages 18 = .ok (.iconst 1, 1) := by decide +kernel
theorem dX11_ages_19 : decode cX11_ages 19 = .ok (.iload_n 2, 1) := by decide +kernel
theorem dX11_ages_20 : decode cX11_ages 20 = .ok (.invokevirtual 82, 3) := by decide +kernel
theorem dX11_ages_23 : decode cX11_ages 23 = .ok (.aload_n 0, 1) := by decide +kernel
theorem dX11_ages_24 : decode cX11_ages 24 = .ok (.iload_n 1, 1) := by decide +kernel
theorem dX11_ages_25 : decode cX11_ages 25 = .ok (.iconst 2, 1) := by decide +kernel
theorem dX11_ages_26 : decode cX11_ages 26 = .ok (.iload_n 3, 1) := by decide +kernel
theorem dX11_ages_27 : decode cX11_ages 27 = .ok (.ifCond .ge 12, 3) := by decide +kernel
theorem dX11_ages_30 : decode cX11_ages 30 = .ok (.aload_n 0, 1) := by decide +kernel
theorem dX11_ages_31 : decode cX11_ages 31 = .ok (.iload_n 1, 1) := by decide +kernel
theorem dX11_ages_32 : decode cX11_ages 32 = .ok (.iconst 2, 1) := by decide +kernel
theorem dX11_ages_33 : decode cX11_ages 33 = .ok (.invokevirtual 61, 3) := by decide +kernel
theorem dX11_ages_36 : decode cX11_ages 36 = .ok (.goto 13, 3) := by decide +kernel
theorem dX11_ages_39 : decode cX11_ages 39 = .ok (.aload_n 0, 1) := by decide +kernel
theorem dX11_ages_40 : decode cX11_ages 40 = .ok (.iload_n 1, 1) := by decide +kernel
theorem dX11_ages_41 : decode cX11_ages 41 = .ok (.iconst 2, 1) := by decide +kernel
theorem dX11_ages_42 : decode cX11_ages 42 = .ok (.invokevirtual 61, 3) := by decide +kernel
theorem dX11_ages_45 : decode cX11_ages 45 = .ok (.iconst 1, 1) := by decide +kernel
theorem dX11_ages_46 : decode cX11_ages 46 = .ok (.iload_n 3, 1) := by decide +kernel
theorem dX11_ages_47 : decode cX11_ages 47 = .ok (.ishl, 1) := by decide +kernel
theorem dX11_ages_48 : decode cX11_ages 48 = .ok (.ior, 1) := by decide +kernel
theorem dX11_ages_49 : decode cX11_ages 49 = .ok (.invokevirtual 82, 3) := by decide +kernel
theorem dX11_ages_52 : decode cX11_ages 52 = .ok (.iload_n 2, 1) := by decide +kernel
theorem dX11_ages_53 : decode cX11_ages 53 = .ok (.bipush 7, 2) := by decide +kernel
theorem dX11_ages_55 : decode cX11_ages 55 = .ok (.irem, 1) := by decide +kernel
theorem dX11_ages_56 : decode cX11_ages 56 = .ok (.ifCond .ne 9, 3) := by decide +kernel
theorem dX11_ages_59 : decode cX11_ages 59 = .ok (.aload_n 0, 1) := by decide +kernel
theorem dX11_ages_60 : decode cX11_ages 60 = .ok (.iload_n 1, 1) := by decide +kernel
theorem dX11_ages_61 : decode cX11_ages 61 = .ok (.invokevirtual 120, 3) := by decide +kernel
theorem dX11_ages_64 : decode cX11_ages 64 = .ok (.pop, 1) := by decide +kernel
theorem dX11_ages_65 : decode cX11_ages 65 = .ok (.return_, 1) := by decide +kernel
theorem dX11_oneYear_0 : decode cX11_oneYear 0 = .ok (.iconst 0, 1) := by decide +kernel
theorem dX11_oneYear_1 : decode cX11_oneYear 1 = .ok (.istore_n 1, 1) := by decide +kernel
theorem dX11_oneYear_2 : decode cX11_oneYear 2 = .ok (.iload_n 1, 1) := by decide +kernel
theorem dX11_oneYear_3 : decode cX11_oneYear 3 = .ok (.aload_n 0, 1) := by decide +kernel
theorem dX11_oneYear_4 : decode cX11_oneYear 4 = .ok (.getfield 7, 3) := by decide +kernel
theorem dX11_oneYear_7 : decode cX11_oneYear 7 = .ok (.iconst 2, 1) := by decide +kernel
theorem dX11_oneYear_8 : decode cX11_oneYear 8 = .ok (.iaload, 1) := by decide +kernel
theorem dX11_oneYear_9 : decode cX11_oneYear 9 = .ok (.if_icmp .ge 25, 3) := by decide +kernel
theorem dX11_oneYear_12 : decode cX11_oneYear 12 = .ok (.aload_n 0, 1) := by decide +kernel
theorem dX11_oneYear_13 : decode cX11_oneYear 13 = .ok (.iload_n 1, 1) := by decide +kernel
theorem dX11_oneYear_14 : decode cX11_oneYear 14 = .ok (.iconst 1, 1) := by decide +kernel
theorem dX11_oneYear_15 : decode cX11_oneYear 15 = .ok (.invokevirtual 61, 3) := by decide +kernel
theorem dX11_oneYear_18 : decode cX11_oneYear 18 = .ok (.bipush 70, 2) := by decide +kernel
theorem dX11_oneYear_20 : decode cX11_oneYear 20 = .ok (.if_icmp .ge 8, 3) := by decide +kernel
theorem dX11_oneYear_23 : decode cX11_oneYear 23 = .ok (.aload_n 0, 1) := by decide +kernel
theorem dX11_oneYear_24 : decode cX11_oneYear 24 = .ok (.iload_n 1, 1) := by decide +kernel
theorem dX11_oneYear_25 : decode cX11_oneYear 25 = .ok (.invokevirtual 123, 3) := by decide +kernel
theorem dX11_oneYear_28 : decode cX11_oneYear 28 = .ok (.iinc 1 1, 3) := by decide +kernel
theorem dX11_oneYear_31 : decode cX11_oneYear 31 = .ok (.goto (-29), 3) := by decide +kernel
theorem dX11_oneYear_34 : decode cX11_oneYear 34 = .ok (.aload_n 0, 1) := by decide +kernel
theorem dX11_oneYear_35 : decode cX11_oneYear 35 = .ok (.getfield 7, 3) := by decide +kernel
theorem dX11_oneYear_38 : decode cX11_oneYear 38 = .ok (.iconst 0, 1) := by decide +kernel
theorem dX11_oneYear_39 : decode cX11_oneYear 39 = .ok (.dup2, 1) := by decide +kernel
theorem dX11_oneYear_40 : decode cX11_oneYear 40 = .ok (.iaload, 1) := by decide +kernel
theorem dX11_oneYear_41 : decode cX11_oneYear 41 = .ok (.iconst 1, 1) := by decide +kernel
theorem dX11_oneYear_42 : decode cX11_oneYear 42 = .ok (.iadd, 1) := by decide +kernel
theorem dX11_oneYear_43 : decode cX11_oneYear 43 = .ok (.iastore, 1) := by decide +kernel
theorem dX11_oneYear_44 : decode cX11_oneYear 44 = .ok (.return_, 1) := by decide +kernel
theorem dX11_passes_0 : decode cX11_passes 0 = .ok (.iconst 0, 1) := by decide +kernel
theorem dX11_passes_1 : decode cX11_passes 1 = .ok (.istore_n 2, 1) := by decide +kernel
theorem dX11_passes_2 : decode cX11_passes 2 = .ok (.iload_n 2, 1) := by decide +kernel
theorem dX11_passes_3 : decode cX11_passes 3 = .ok (.iload_n 1, 1) := by decide +kernel
theorem dX11_passes_4 : decode cX11_passes 4 = .ok (.if_icmp .ge 13, 3) := by decide +kernel
theorem dX11_passes_7 : decode cX11_passes 7 = .ok (.aload_n 0, 1) := by decide +kernel
theorem dX11_passes_8 : decode cX11_passes 8 = .ok (.invokevirtual 127, 3) := by decide +kernel
theorem dX11_passes_11 : decode cX11_passes 11 = .ok (.iinc 2 1, 3) := by decide +kernel
theorem dX11_passes_14 : decode cX11_passes 14 = .ok (.goto (-12), 3) := by decide +kernel
theorem dX11_passes_17 : decode cX11_passes 17 = .ok (.return_, 1) := by decide +kernel
theorem dX11_sumOf_0 : decode cX11_sumOf 0 = .ok (.iconst 0, 1) := by decide +kernel
theorem dX11_sumOf_1 : decode cX11_sumOf 1 = .ok (.istore_n 2, 1) := by decide +kernel
theorem dX11_sumOf_2 : decode cX11_sumOf 2 = .ok (.iconst 0, 1) := by decide +kernel
theorem dX11_sumOf_3 : decode cX11_sumOf 3 = .ok (.istore_n 3, 1) := by decide +kernel
theorem dX11_sumOf_4 : decode cX11_sumOf 4 = .ok (.iload_n 3, 1) := by decide +kernel
theorem dX11_sumOf_5 : decode cX11_sumOf 5 = .ok (.aload_n 0, 1) := by decide +kernel
theorem dX11_sumOf_6 : decode cX11_sumOf 6 = .ok (.getfield 7, 3) := by decide +kernel
theorem dX11_sumOf_9 : decode cX11_sumOf 9 = .ok (.iconst 2, 1) := by decide +kernel
theorem dX11_sumOf_10 : decode cX11_sumOf 10 = .ok (.iaload, 1) := by decide +kernel
theorem dX11_sumOf_11 : decode cX11_sumOf 11 = .ok (.if_icmp .ge 18, 3) := by decide +kernel
theorem dX11_sumOf_14 : decode cX11_sumOf 14 = .ok (.iload_n 2, 1) := by decide +kernel
theorem dX11_sumOf_15 : decode cX11_sumOf 15 = .ok (.aload_n 0, 1) := by decide +kernel
theorem dX11_sumOf_16 : decode cX11_sumOf 16 = .ok (.iload_n 3, 1) := by decide +kernel
theorem dX11_sumOf_17 : decode cX11_sumOf 17 = .ok (.iload_n 1, 1) := by decide +kernel
theorem dX11_sumOf_18 : decode cX11_sumOf 18 = .ok (.invokevirtual 61, 3) := by decide +kernel
theorem dX11_sumOf_21 : decode cX11_sumOf 21 = .ok (.iadd, 1) := by decide +kernel
theorem dX11_sumOf_22 : decode cX11_sumOf 22 = .ok (.istore_n 2, 1) := by decide +kernel
theorem dX11_sumOf_23 : decode cX11_sumOf 23 = .ok (.iinc 3 1, 3) := by decide +kernel
theorem dX11_sumOf_26 : decode cX11_sumOf 26 = .ok (.goto (-22), 3) := by decide +kernel
theorem dX11_sumOf_29 : decode cX11_sumOf 29 = .ok (.iload_n 2, 1) := by decide +kernel
theorem dX11_sumOf_30 : decode cX11_sumOf 30 = .ok (.ireturn, 1) := by decide +kernel
theorem dX11_years_0 : decode cX11_years 0 = .ok (.iload_n 1, 1) := by decide +kernel
theorem dX11_years_1 : decode cX11_years 1 = .ok (.iconst 1, 1) := by decide +kernel
theorem dX11_years_2 : decode cX11_years 2 = .ok (.bipush 80, 2) := by decide +kernel
theorem dX11_years_4 : decode cX11_years 4 = .ok (.invokestatic 45, 3) := by decide +kernel
theorem dX11_years_7 : decode cX11_years 7 = .ok (.ifCond .ne 10, 3) := by decide +kernel
theorem dX11_years_10 : decode cX11_years 10 = .ok (.aload_n 0, 1) := by decide +kernel
theorem dX11_years_11 : decode cX11_years 11 = .ok (.ldc 44, 2) := by decide +kernel
theorem dX11_years_13 : decode cX11_years 13 = .ok (.invokevirtual 57, 3) := by decide +kernel
theorem dX11_years_16 : decode cX11_years 16 = .ok (.ireturn, 1) := by decide +kernel
theorem dX11_years_17 : decode cX11_years 17 = .ok (.aload_n 0, 1) := by decide +kernel
theorem dX11_years_18 : decode cX11_years 18 = .ok (.getfield 7, 3) := by decide +kernel
theorem dX11_years_21 : decode cX11_years 21 = .ok (.iconst 0, 1) := by decide +kernel
theorem dX11_years_22 : decode cX11_years 22 = .ok (.iaload, 1) := by decide +kernel
theorem dX11_years_23 : decode cX11_years 23 = .ok (.iload_n 1, 1) := by decide +kernel
theorem dX11_years_24 : decode cX11_years 24 = .ok (.iadd, 1) := by decide +kernel
theorem dX11_years_25 : decode cX11_years 25 = .ok (.sipush 9999, 3) := by decide +kernel
theorem dX11_years_28 : decode cX11_years 28 = .ok (.if_icmp .le 10, 3) := by decide +kernel
theorem dX11_years_31 : decode cX11_years 31 = .ok (.aload_n 0, 1) := by decide +kernel
theorem dX11_years_32 : decode cX11_years 32 = .ok (.ldc 115, 2) := by decide +kernel
theorem dX11_years_34 : decode cX11_years 34 = .ok (.invokevirtual 57, 3) := by decide +kernel
theorem dX11_years_37 : decode cX11_years 37 = .ok (.ireturn, 1) := by decide +kernel
theorem dX11_years_38 : decode cX11_years 38 = .ok (.aload_n 0, 1) := by decide +kernel
theorem dX11_years_39 : decode cX11_years 39 = .ok (.iload_n 1, 1) := by decide +kernel
theorem dX11_years_40 : decode cX11_years 40 = .ok (.invokevirtual 130, 3) := by decide +kernel
theorem dX11_years_43 : decode cX11_years 43 = .ok (.aload_n 0, 1) := by decide +kernel
theorem dX11_years_44 : decode cX11_years 44 = .ok (.iconst 4, 1) := by decide +kernel
theorem dX11_years_45 : decode cX11_years 45 = .ok (.invokevirtual 133, 3) := by decide +kernel
theorem dX11_years_48 : decode cX11_years 48 = .ok (.ireturn, 1) := by decide +kernel
theorem dX11_oldest_0 : decode cX11_oldest 0 = .ok (.iconst 0, 1) := by decide +kernel
theorem dX11_oldest_1 : decode cX11_oldest 1 = .ok (.istore_n 1, 1) := by decide +kernel
theorem dX11_oldest_2 : decode cX11_oldest 2 = .ok (.iconst 0, 1) := by decide +kernel
theorem dX11_oldest_3 : decode cX11_oldest 3 = .ok (.istore_n 2, 1) := by decide +kernel
theorem dX11_oldest_4 : decode cX11_oldest 4 = .ok (.iload_n 2, 1) := by decide +kernel
theorem dX11_oldest_5 : decode cX11_oldest 5 = .ok (.aload_n 0, 1) := by decide +kernel
theorem dX11_oldest_6 : decode cX11_oldest 6 = .ok (.getfield 7, 3) := by decide +kernel
theorem dX11_oldest_9 : decode cX11_oldest 9 = .ok (.iconst 2, 1) := by decide +kernel
theorem dX11_oldest_10 : decode cX11_oldest 10 = .ok (.iaload, 1) := by decide +kernel
theorem dX11_oldest_11 : decode cX11_oldest 11 = .ok (.if_icmp .ge 30, 3) := by decide +kernel
theorem dX11_oldest_14 : decode cX11_oldest 14 = .ok (.iload_n 1, 1) := by decide +kernel
theorem dX11_oldest_15 : decode cX11_oldest 15 = .ok (.aload_n 0, 1) := by decide +kernel
theorem dX11_oldest_16 : decode cX11_oldest 16 = .ok (.iload_n 2, 1) := by decide +kernel
theorem dX11_oldest_17 : decode cX11_oldest 17 = .ok (.iconst 1, 1) := by decide +kernel
theorem dX11_oldest_18 : decode cX11_oldest 18 = .ok (.invokevirtual 61, 3) := by decide +kernel
theorem dX11_oldest_21 : decode cX11_oldest 21 = .ok (.bipush 70, 2) := by decide +kernel
theorem dX11_oldest_23 : decode cX11_oldest 23 = .ok (.if_icmp .ne 9, 3) := by decide +kernel
theorem dX11_oldest_26 : decode cX11_oldest 26 = .ok (.iconst 1, 1) := by decide +kernel
theorem dX11_oldest_27 : decode cX11_oldest 27 = .ok (.iload_n 2, 1) := by decide +kernel
theorem dX11_oldest_28 : decode cX11_oldest 28 = .ok (.ishl, 1) := by decide +kernel
theorem dX11_oldest_29 : decode cX11_oldest 29 = .ok (.goto 4, 3) := by decide +kernel
theorem dX11_oldest_32 : decode cX11_oldest 32 = .ok (.iconst 0, 1) := by decide +kernel
theorem dX11_oldest_33 : decode cX11_oldest 33 = .ok (.ior, 1) := by decide +kernel
theorem dX11_oldest_34 : decode cX11_oldest 34 = .ok (.istore_n 1, 1) := by decide +kernel
theorem dX11_oldest_35 : decode cX11_oldest 35 = .ok (.iinc 2 1, 3) := by decide +kernel
theorem dX11_oldest_38 : decode cX11_oldest 38 = .ok (.goto (-34), 3) := by decide +kernel
theorem dX11_oldest_41 : decode cX11_oldest 41 = .ok (.iload_n 1, 1) := by decide +kernel
theorem dX11_oldest_42 : decode cX11_oldest 42 = .ok (.ireturn, 1) := by decide +kernel
theorem dX11_valueOfAll_0 : decode cX11_valueOfAll 0 = .ok (.iconst 0, 1) := by decide +kernel
theorem dX11_valueOfAll_1 : decode cX11_valueOfAll 1 = .ok (.istore_n 1, 1) := by decide +kernel
theorem dX11_valueOfAll_2 : decode cX11_valueOfAll 2 = .ok (.iconst 0, 1) := by decide +kernel
theorem dX11_valueOfAll_3 : decode cX11_valueOfAll 3 = .ok (.istore_n 2, 1) := by decide +kernel
theorem dX11_valueOfAll_4 : decode cX11_valueOfAll 4 = .ok (.iload_n 2, 1) := by decide +kernel
theorem dX11_valueOfAll_5 : decode cX11_valueOfAll 5 = .ok (.aload_n 0, 1) := by decide +kernel
theorem dX11_valueOfAll_6 : decode cX11_valueOfAll 6 = .ok (.getfield 7, 3) := by decide +kernel
theorem dX11_valueOfAll_9 : decode cX11_valueOfAll 9 = .ok (.iconst 2, 1) := by decide +kernel
theorem dX11_valueOfAll_10 : decode cX11_valueOfAll 10 = .ok (.iaload, 1) := by decide +kernel
theorem dX11_valueOfAll_11 : decode cX11_valueOfAll 11 = .ok (.if_icmp .ge 22, 3) := by decide +kernel
theorem dX11_valueOfAll_14 : decode cX11_valueOfAll 14 = .ok (.iload_n 1, 1) := by decide +kernel
theorem dX11_valueOfAll_15 : decode cX11_valueOfAll 15 = .ok (.aload_n 0, 1) := by decide +kernel
theorem dX11_valueOfAll_16 : decode cX11_valueOfAll 16 = .ok (.aload_n 0, 1) := by decide +kernel
theorem dX11_valueOfAll_17 : decode cX11_valueOfAll 17 = .ok (.iload_n 2, 1) := by decide +kernel
theorem dX11_valueOfAll_18 : decode cX11_valueOfAll 18 = .ok (.iconst 2, 1) := by decide +kernel
theorem dX11_valueOfAll_19 : decode cX11_valueOfAll 19 = .ok (.invokevirtual 61, 3) := by decide +kernel
theorem dX11_valueOfAll_22 : decode cX11_valueOfAll 22 = .ok (.invokevirtual 103, 3) := by decide +kernel
theorem dX11_valueOfAll_25 : decode cX11_valueOfAll 25 = .ok (.iadd, 1) := by decide +kernel
theorem dX11_valueOfAll_26 : decode cX11_valueOfAll 26 = .ok (.istore_n 1, 1) := by decide +kernel
theorem dX11_valueOfAll_27 : decode cX11_valueOfAll 27 = .ok (.iinc 2 1, 3) := by decide +kernel
theorem dX11_valueOfAll_30 : decode cX11_valueOfAll 30 = .ok (.goto (-26), 3) := by decide +kernel
theorem dX11_valueOfAll_33 : decode cX11_valueOfAll 33 = .ok (.iload_n 1, 1) := by decide +kernel
theorem dX11_valueOfAll_34 : decode cX11_valueOfAll 34 = .ok (.ireturn, 1) := by decide +kernel
theorem dX11_hadByAny_0 : decode cX11_hadByAny 0 = .ok (.iconst 0, 1) := by decide +kernel
theorem dX11_hadByAny_1 : decode cX11_hadByAny 1 = .ok (.istore_n 1, 1) := by decide +kernel
theorem dX11_hadByAny_2 : decode cX11_hadByAny 2 = .ok (.iconst 0, 1) := by decide +kernel
theorem dX11_hadByAny_3 : decode cX11_hadByAny 3 = .ok (.istore_n 2, 1) := by decide +kernel
theorem dX11_hadByAny_4 : decode cX11_hadByAny 4 = .ok (.iload_n 2, 1) := by decide +kernel
theorem dX11_hadByAny_5 : decode cX11_hadByAny 5 = .ok (.aload_n 0, 1) := by decide +kernel
theorem dX11_hadByAny_6 : decode cX11_hadByAny 6 = .ok (.getfield 7, 3) := by decide +kernel
theorem dX11_hadByAny_9 : decode cX11_hadByAny 9 = .ok (.iconst 2, 1) := by decide +kernel
theorem dX11_hadByAny_10 : decode cX11_hadByAny 10 = .ok (.iaload, 1) := by decide +kernel
theorem dX11_hadByAny_11 : decode cX11_hadByAny 11 = .ok (.if_icmp .ge 18, 3) := by decide +kernel
theorem dX11_hadByAny_14 : decode cX11_hadByAny 14 = .ok (.iload_n 1, 1) := by decide +kernel
theorem dX11_hadByAny_15 : decode cX11_hadByAny 15 = .ok (.aload_n 0, 1) := by decide +kernel
theorem dX11_hadByAny_16 : decode cX11_hadByAny 16 = .ok (.iload_n 2, 1) := by decide +kernel
theorem dX11_hadByAny_17 : decode cX11_hadByAny 17 = .ok (.iconst 2, 1) := by decide +kernel
theorem dX11_hadByAny_18 : decode cX11_hadByAny 18 = .ok (.invokevirtual 61, 3) := by decide +kernel
theorem dX11_hadByAny_21 : decode cX11_hadByAny 21 = .ok (.ior, 1) := by decide +kernel
theorem dX11_hadByAny_22 : decode cX11_hadByAny 22 = .ok (.istore_n 1, 1) := by decide +kernel
theorem dX11_hadByAny_23 : decode cX11_hadByAny 23 = .ok (.iinc 2 1, 3) := by decide +kernel
theorem dX11_hadByAny_26 : decode cX11_hadByAny 26 = .ok (.goto (-22), 3) := by decide +kernel
theorem dX11_hadByAny_29 : decode cX11_hadByAny 29 = .ok (.iload_n 1, 1) := by decide +kernel
theorem dX11_hadByAny_30 : decode cX11_hadByAny 30 = .ok (.ireturn, 1) := by decide +kernel
theorem dX11_now_0 : decode cX11_now 0 = .ok (.iload_n 1, 1) := by decide +kernel
theorem dX11_now_1 : decode cX11_now 1 = .ok (.tableswitch 74 0 5 #[39, 46, 53, 58, 63, 68], 39) := by decide +kernel
theorem dX11_now_40 : decode cX11_now 40 = .ok (.aload_n 0, 1) := by decide +kernel
theorem dX11_now_41 : decode cX11_now 41 = .ok (.getfield 7, 3) := by decide +kernel
theorem dX11_now_44 : decode cX11_now 44 = .ok (.iconst 0, 1) := by decide +kernel
theorem dX11_now_45 : decode cX11_now 45 = .ok (.iaload, 1) := by decide +kernel
theorem dX11_now_46 : decode cX11_now 46 = .ok (.ireturn, 1) := by decide +kernel
theorem dX11_now_47 : decode cX11_now 47 = .ok (.aload_n 0, 1) := by decide +kernel
theorem dX11_now_48 : decode cX11_now 48 = .ok (.getfield 7, 3) := by decide +kernel
theorem dX11_now_51 : decode cX11_now 51 = .ok (.iconst 1, 1) := by decide +kernel
theorem dX11_now_52 : decode cX11_now 52 = .ok (.iaload, 1) := by decide +kernel
theorem dX11_now_53 : decode cX11_now 53 = .ok (.ireturn, 1) := by decide +kernel
theorem dX11_now_54 : decode cX11_now 54 = .ok (.aload_n 0, 1) := by decide +kernel
theorem dX11_now_55 : decode cX11_now 55 = .ok (.invokevirtual 136, 3) := by decide +kernel
theorem dX11_now_58 : decode cX11_now 58 = .ok (.ireturn, 1) := by decide +kernel
theorem dX11_now_59 : decode cX11_now 59 = .ok (.aload_n 0, 1) := by decide +kernel
theorem dX11_now_60 : decode cX11_now 60 = .ok (.invokevirtual 140, 3) := by decide +kernel
theorem dX11_now_63 : decode cX11_now 63 = .ok (.ireturn, 1) := by decide +kernel
theorem dX11_now_64 : decode cX11_now 64 = .ok (.aload_n 0, 1) := by decide +kernel
theorem dX11_now_65 : decode cX11_now 65 = .ok (.invokevirtual 143, 3) := by decide +kernel
theorem dX11_now_68 : decode cX11_now 68 = .ok (.ireturn, 1) := by decide +kernel
theorem dX11_now_69 : decode cX11_now 69 = .ok (.aload_n 0, 1) := by decide +kernel
theorem dX11_now_70 : decode cX11_now 70 = .ok (.iconst 4, 1) := by decide +kernel
theorem dX11_now_71 : decode cX11_now 71 = .ok (.invokevirtual 133, 3) := by decide +kernel
theorem dX11_now_74 : decode cX11_now 74 = .ok (.ireturn, 1) := by decide +kernel
theorem dX11_now_75 : decode cX11_now 75 = .ok (.aload_n 0, 1) := by decide +kernel
theorem dX11_now_76 : decode cX11_now 76 = .ok (.ldc 44, 2) := by decide +kernel
theorem dX11_now_78 : decode cX11_now 78 = .ok (.invokevirtual 57, 3) := by decide +kernel
theorem dX11_now_81 : decode cX11_now 81 = .ok (.ireturn, 1) := by decide +kernel
theorem dX11_on_0 : decode cX11_on 0 = .ok (.aload_n 0, 1) := by decide +kernel
theorem dX11_on_1 : decode cX11_on 1 = .ok (.iload_n 1, 1) := by decide +kernel
theorem dX11_on_2 : decode cX11_on 2 = .ok (.invokevirtual 94, 3) := by decide +kernel
theorem dX11_on_5 : decode cX11_on 5 = .ok (.ifCond .eq 22, 3) := by decide +kernel
theorem dX11_on_8 : decode cX11_on 8 = .ok (.iload_n 2, 1) := by decide +kernel
theorem dX11_on_9 : decode cX11_on 9 = .ok (.iconst 0, 1) := by decide +kernel
theorem dX11_on_10 : decode cX11_on 10 = .ok (.bipush 80, 2) := by decide +kernel
theorem dX11_on_12 : decode cX11_on 12 = .ok (.invokestatic 45, 3) := by decide +kernel
theorem dX11_on_15 : decode cX11_on 15 = .ok (.ifCond .eq 12, 3) := by decide +kernel
theorem dX11_on_18 : decode cX11_on 18 = .ok (.iload_n 3, 1) := by decide +kernel
theorem dX11_on_19 : decode cX11_on 19 = .ok (.iconst 0, 1) := by decide +kernel
theorem dX11_on_20 : decode cX11_on 20 = .ok (.iconst 1, 1) := by decide +kernel
theorem dX11_on_21 : decode cX11_on 21 = .ok (.invokestatic 45, 3) := by decide +kernel
theorem dX11_on_24 : decode cX11_on 24 = .ok (.ifCond .ne 10, 3) := by decide +kernel
theorem dX11_on_27 : decode cX11_on 27 = .ok (.aload_n 0, 1) := by decide +kernel
theorem dX11_on_28 : decode cX11_on 28 = .ok (.ldc 44, 2) := by decide +kernel
theorem dX11_on_30 : decode cX11_on 30 = .ok (.invokevirtual 57, 3) := by decide +kernel
theorem dX11_on_33 : decode cX11_on 33 = .ok (.ireturn, 1) := by decide +kernel
theorem dX11_on_34 : decode cX11_on 34 = .ok (.aload_n 0, 1) := by decide +kernel
theorem dX11_on_35 : decode cX11_on 35 = .ok (.iconst 1, 1) := by decide +kernel
theorem dX11_on_36 : decode cX11_on 36 = .ok (.aload_n 0, 1) := by decide +kernel
theorem dX11_on_37 : decode cX11_on 37 = .ok (.getfield 16, 3) := by decide +kernel
theorem dX11_on_40 : decode cX11_on 40 = .ok (.invokevirtual 146, 3) := by decide +kernel
theorem dX11_on_43 : decode cX11_on 43 = .ok (.aload_n 0, 1) := by decide +kernel
theorem dX11_on_44 : decode cX11_on 44 = .ok (.iload_n 2, 1) := by decide +kernel
theorem dX11_on_45 : decode cX11_on 45 = .ok (.invokevirtual 130, 3) := by decide +kernel
theorem dX11_on_48 : decode cX11_on 48 = .ok (.aload_n 0, 1) := by decide +kernel
theorem dX11_on_49 : decode cX11_on 49 = .ok (.iload_n 1, 1) := by decide +kernel
theorem dX11_on_50 : decode cX11_on 50 = .ok (.iload_n 3, 1) := by decide +kernel
theorem dX11_on_51 : decode cX11_on 51 = .ok (.ifCond .ne 7, 3) := by decide +kernel
theorem dX11_on_54 : decode cX11_on 54 = .ok (.iconst 2, 1) := by decide +kernel
theorem dX11_on_55 : decode cX11_on 55 = .ok (.goto 4, 3) := by decide +kernel
theorem dX11_on_58 : decode cX11_on 58 = .ok (.iconst 4, 1) := by decide +kernel
theorem dX11_on_59 : decode cX11_on 59 = .ok (.invokevirtual 61, 3) := by decide +kernel
theorem dX11_on_62 : decode cX11_on 62 = .ok (.istore 4, 2) := by decide +kernel
theorem dX11_on_64 : decode cX11_on 64 = .ok (.aload_n 0, 1) := by decide +kernel
theorem dX11_on_65 : decode cX11_on 65 = .ok (.iconst 0, 1) := by decide +kernel
theorem dX11_on_66 : decode cX11_on 66 = .ok (.aload_n 0, 1) := by decide +kernel
theorem dX11_on_67 : decode cX11_on 67 = .ok (.getfield 16, 3) := by decide +kernel
theorem dX11_on_70 : decode cX11_on 70 = .ok (.invokevirtual 146, 3) := by decide +kernel
theorem dX11_on_73 : decode cX11_on 73 = .ok (.iload 4, 2) := by decide +kernel
theorem dX11_on_75 : decode cX11_on 75 = .ok (.ireturn, 1) := by decide +kernel
theorem dX11_firstOf_0 : decode cX11_firstOf 0 = .ok (.aload_n 0, 1) := by decide +kernel
theorem dX11_firstOf_1 : decode cX11_firstOf 1 = .ok (.iconst 1, 1) := by decide +kernel
theorem dX11_firstOf_2 : decode cX11_firstOf 2 = .ok (.aload_n 0, 1) := by decide +kernel
theorem dX11_firstOf_3 : decode cX11_firstOf 3 = .ok (.getfield 16, 3) := by decide +kernel
theorem dX11_firstOf_6 : decode cX11_firstOf 6 = .ok (.invokevirtual 146, 3) := by decide +kernel
theorem dX11_firstOf_9 : decode cX11_firstOf 9 = .ok (.iconst 0, 1) := by decide +kernel
theorem dX11_firstOf_10 : decode cX11_firstOf 10 = .ok (.istore 4, 2) := by decide +kernel
theorem dX11_firstOf_12 : decode cX11_firstOf 12 = .ok (.iload 4, 2) := by decide +kernel
theorem dX11_firstOf_14 : decode cX11_firstOf 14 = .ok (.bipush 80, 2) := by decide +kernel
theorem dX11_firstOf_16 : decode cX11_firstOf 16 = .ok (.if_icmp .gt 53, 3) := by decide +kernel
theorem dX11_firstOf_19 : decode cX11_firstOf 19 = .ok (.iload_n 3, 1) := by decide +kernel
theorem dX11_firstOf_20 : decode cX11_firstOf 20 = .ok (.iconst 2, 1) := by decide +kernel
theorem dX11_firstOf_21 : decode cX11_firstOf 21 = .ok (.if_icmp .ne 19, 3) := by decide +kernel
theorem dX11_firstOf_24 : decode cX11_firstOf 24 = .ok (.aload_n 0, 1) := by decide +kernel
theorem dX11_firstOf_25 : decode cX11_firstOf 25 = .ok (.getfield 7, 3) := by decide +kernel
theorem dX11_firstOf_28 : decode cX11_firstOf 28 = .ok (.iconst 1, 1) := by decide +kernel
theorem dX11_firstOf_29 : decode cX11_firstOf 29 = .ok (.iaload, 1) := by decide +kernel
theorem dX11_firstOf_30 : decode cX11_firstOf 30 = .ok (.iload_n 2, 1) := by decide +kernel
theorem dX11_firstOf_31 : decode cX11_firstOf 31 = .ok (.ishr, 1) := by decide +kernel
theorem dX11_firstOf_32 : decode cX11_firstOf 32 = .ok (.iconst 1, 1) := by decide +kernel
theorem dX11_firstOf_33 : decode cX11_firstOf 33 = .ok (.iand, 1) := by decide +kernel
theorem dX11_firstOf_34 : decode cX11_firstOf 34 = .ok (.ifCond .ne 35, 3) := by decide +kernel
theorem dX11_firstOf_37 : decode cX11_firstOf 37 = .ok (.goto 22, 3) := by decide +kernel
theorem dX11_firstOf_40 : decode cX11_firstOf 40 = .ok (.aload_n 0, 1) := by decide +kernel
theorem dX11_firstOf_41 : decode cX11_firstOf 41 = .ok (.iload_n 1, 1) := by decide +kernel
theorem dX11_firstOf_42 : decode cX11_firstOf 42 = .ok (.iload_n 2, 1) := by decide +kernel
theorem dX11_firstOf_43 : decode cX11_firstOf 43 = .ok (.invokevirtual 112, 3) := by decide +kernel
theorem dX11_firstOf_46 : decode cX11_firstOf 46 = .ok (.iload_n 3, 1) := by decide +kernel
theorem dX11_firstOf_47 : decode cX11_firstOf 47 = .ok (.iconst 1, 1) := by decide +kernel
theorem dX11_firstOf_48 : decode cX11_firstOf 48 = .ok (.if_icmp .ne 7, 3) := by decide +kernel
theorem dX11_firstOf_51 : decode cX11_firstOf 51 = .ok (.iconst 1, 1) := by decide +kernel
theorem dX11_firstOf_52 : decode cX11_firstOf 52 = .ok (.goto 4, 3) := by decide +kernel
theorem dX11_firstOf_55 : decode cX11_firstOf 55 = .ok (.iconst 0, 1) := by decide +kernel
theorem dX11_firstOf_56 : decode cX11_firstOf 56 = .ok (.if_icmp .eq 13, 3) := by decide +kernel
theorem dX11_firstOf_59 : decode cX11_firstOf 59 = .ok (.aload_n 0, 1) := by decide +kernel
theorem dX11_firstOf_60 : decode cX11_firstOf 60 = .ok (.invokevirtual 127, 3) := by decide +kernel
theorem dX11_firstOf_63 : decode cX11_firstOf 63 = .ok (.iinc 4 1, 3) := by decide +kernel
theorem dX11_firstOf_66 : decode cX11_firstOf 66 = .ok (.goto (-54), 3) := by decide +kernel
theorem dX11_firstOf_69 : decode cX11_firstOf 69 = .ok (.aload_n 0, 1) := by decide +kernel
theorem dX11_firstOf_70 : decode cX11_firstOf 70 = .ok (.iconst 0, 1) := by decide +kernel
theorem dX11_firstOf_71 : decode cX11_firstOf 71 = .ok (.aload_n 0, 1) := by decide +kernel
theorem dX11_firstOf_72 : decode cX11_firstOf 72 = .ok (.getfield 16, 3) := by decide +kernel
theorem dX11_firstOf_75 : decode cX11_firstOf 75 = .ok (.invokevirtual 146, 3) := by decide +kernel
theorem dX11_firstOf_78 : decode cX11_firstOf 78 = .ok (.iload 4, 2) := by decide +kernel
theorem dX11_firstOf_80 : decode cX11_firstOf 80 = .ok (.bipush 80, 2) := by decide +kernel
theorem dX11_firstOf_82 : decode cX11_firstOf 82 = .ok (.if_icmp .le 12, 3) := by decide +kernel
theorem dX11_firstOf_85 : decode cX11_firstOf 85 = .ok (.aload_n 0, 1) := by decide +kernel
theorem dX11_firstOf_86 : decode cX11_firstOf 86 = .ok (.ldc 150, 2) := by decide +kernel
theorem dX11_firstOf_88 : decode cX11_firstOf 88 = .ok (.invokevirtual 57, 3) := by decide +kernel
theorem dX11_firstOf_91 : decode cX11_firstOf 91 = .ok (.goto 5, 3) := by decide +kernel
theorem dX11_firstOf_94 : decode cX11_firstOf 94 = .ok (.iload 4, 2) := by decide +kernel
theorem dX11_firstOf_96 : decode cX11_firstOf 96 = .ok (.ireturn, 1) := by decide +kernel
theorem dX11_gets_0 : decode cX11_gets 0 = .ok (.aload_n 0, 1) := by decide +kernel
theorem dX11_gets_1 : decode cX11_gets 1 = .ok (.iload_n 1, 1) := by decide +kernel
theorem dX11_gets_2 : decode cX11_gets 2 = .ok (.invokevirtual 94, 3) := by decide +kernel
theorem dX11_gets_5 : decode cX11_gets 5 = .ok (.ifCond .eq 20, 3) := by decide +kernel
theorem dX11_gets_8 : decode cX11_gets 8 = .ok (.iload_n 2, 1) := by decide +kernel
theorem dX11_gets_9 : decode cX11_gets 9 = .ok (.invokestatic 49, 3) := by decide +kernel
theorem dX11_gets_12 : decode cX11_gets 12 = .ok (.ifCond .eq 13, 3) := by decide +kernel
theorem dX11_gets_15 : decode cX11_gets 15 = .ok (.aload_n 0, 1) := by decide +kernel
theorem dX11_gets_16 : decode cX11_gets 16 = .ok (.iload_n 1, 1) := by decide +kernel
theorem dX11_gets_17 : decode cX11_gets 17 = .ok (.iload_n 2, 1) := by decide +kernel
theorem dX11_gets_18 : decode cX11_gets 18 = .ok (.iconst 1, 1) := by decide +kernel
theorem dX11_gets_19 : decode cX11_gets 19 = .ok (.invokevirtual 151, 3) := by decide +kernel
theorem dX11_gets_22 : decode cX11_gets 22 = .ok (.goto 9, 3) := by decide +kernel
theorem dX11_gets_25 : decode cX11_gets 25 = .ok (.aload_n 0, 1) := by decide +kernel
theorem dX11_gets_26 : decode cX11_gets 26 = .ok (.ldc 44, 2) := by decide +kernel
theorem dX11_gets_28 : decode cX11_gets 28 = .ok (.invokevirtual 57, 3) := by decide +kernel
theorem dX11_gets_31 : decode cX11_gets 31 = .ok (.ireturn, 1) := by decide +kernel
theorem dX11_loses_0 : decode cX11_loses 0 = .ok (.aload_n 0, 1) := by decide +kernel
theorem dX11_loses_1 : decode cX11_loses 1 = .ok (.iload_n 1, 1) := by decide +kernel
theorem dX11_loses_2 : decode cX11_loses 2 = .ok (.invokevirtual 94, 3) := by decide +kernel
theorem dX11_loses_5 : decode cX11_loses 5 = .ok (.ifCond .eq 20, 3) := by decide +kernel
theorem dX11_loses_8 : decode cX11_loses 8 = .ok (.iload_n 2, 1) := by decide +kernel
theorem dX11_loses_9 : decode cX11_loses 9 = .ok (.invokestatic 49, 3) := by decide +kernel
theorem dX11_loses_12 : decode cX11_loses 12 = .ok (.ifCond .eq 13, 3) := by decide +kernel
theorem dX11_loses_15 : decode cX11_loses 15 = .ok (.aload_n 0, 1) := by decide +kernel
theorem dX11_loses_16 : decode cX11_loses 16 = .ok (.iload_n 1, 1) := by decide +kernel
theorem dX11_loses_17 : decode cX11_loses 17 = .ok (.iload_n 2, 1) := by decide +kernel
theorem dX11_loses_18 : decode cX11_loses 18 = .ok (.iconst 0, 1) := by decide +kernel
theorem dX11_loses_19 : decode cX11_loses 19 = .ok (.invokevirtual 151, 3) := by decide +kernel
theorem dX11_loses_22 : decode cX11_loses 22 = .ok (.goto 9, 3) := by decide +kernel
theorem dX11_loses_25 : decode cX11_loses 25 = .ok (.aload_n 0, 1) := by decide +kernel
theorem dX11_loses_26 : decode cX11_loses 26 = .ok (.ldc 44, 2) := by decide +kernel
theorem dX11_loses_28 : decode cX11_loses 28 = .ok (.invokevirtual 57, 3) := by decide +kernel
theorem dX11_loses_31 : decode cX11_loses 31 = .ok (.ireturn, 1) := by decide +kernel
theorem dX11_burns_0 : decode cX11_burns 0 = .ok (.iload_n 1, 1) := by decide +kernel
theorem dX11_burns_1 : decode cX11_burns 1 = .ok (.invokestatic 49, 3) := by decide +kernel
theorem dX11_burns_4 : decode cX11_burns 4 = .ok (.ifCond .eq 13, 3) := by decide +kernel
theorem dX11_burns_7 : decode cX11_burns 7 = .ok (.aload_n 0, 1) := by decide +kernel
theorem dX11_burns_8 : decode cX11_burns 8 = .ok (.iconst 0, 1) := by decide +kernel
theorem dX11_burns_9 : decode cX11_burns 9 = .ok (.iload_n 1, 1) := by decide +kernel
theorem dX11_burns_10 : decode cX11_burns 10 = .ok (.iconst 2, 1) := by decide +kernel
theorem dX11_burns_11 : decode cX11_burns 11 = .ok (.invokevirtual 151, 3) := by decide +kernel
theorem dX11_burns_14 : decode cX11_burns 14 = .ok (.goto 9, 3) := by decide +kernel
theorem dX11_burns_17 : decode cX11_burns 17 = .ok (.aload_n 0, 1) := by decide +kernel
theorem dX11_burns_18 : decode cX11_burns 18 = .ok (.ldc 44, 2) := by decide +kernel
theorem dX11_burns_20 : decode cX11_burns 20 = .ok (.invokevirtual 57, 3) := by decide +kernel
theorem dX11_burns_23 : decode cX11_burns 23 = .ok (.ireturn, 1) := by decide +kernel
theorem dX11_valueWith_0 : decode cX11_valueWith 0 = .ok (.aload_n 0, 1) := by decide +kernel
theorem dX11_valueWith_1 : decode cX11_valueWith 1 = .ok (.iconst 1, 1) := by decide +kernel
theorem dX11_valueWith_2 : decode cX11_valueWith 2 = .ok (.aload_n 0, 1) := by decide +kernel
theorem dX11_valueWith_3 : decode cX11_valueWith 3 = .ok (.getfield 16, 3) := by decide +kernel
theorem dX11_valueWith_6 : decode cX11_valueWith 6 = .ok (.invokevirtual 146, 3) := by decide +kernel
theorem dX11_valueWith_9 : decode cX11_valueWith 9 = .ok (.aload_n 0, 1) := by decide +kernel
theorem dX11_valueWith_10 : decode cX11_valueWith 10 = .ok (.getfield 7, 3) := by decide +kernel
theorem dX11_valueWith_13 : decode cX11_valueWith 13 = .ok (.iload_n 3, 1) := by decide +kernel
theorem dX11_valueWith_14 : decode cX11_valueWith 14 = .ok (.iload 4, 2) := by decide +kernel
theorem dX11_valueWith_16 : decode cX11_valueWith 16 = .ok (.iastore, 1) := by decide +kernel
theorem dX11_valueWith_17 : decode cX11_valueWith 17 = .ok (.aload_n 0, 1) := by decide +kernel
theorem dX11_valueWith_18 : decode cX11_valueWith 18 = .ok (.iload_n 2, 1) := by decide +kernel
theorem dX11_valueWith_19 : decode cX11_valueWith 19 = .ok (.invokevirtual 130, 3) := by decide +kernel
theorem dX11_valueWith_22 : decode cX11_valueWith 22 = .ok (.aload_n 0, 1) := by decide +kernel
theorem dX11_valueWith_23 : decode cX11_valueWith 23 = .ok (.aload_n 0, 1) := by decide +kernel
theorem dX11_valueWith_24 : decode cX11_valueWith 24 = .ok (.iload_n 1, 1) := by decide +kernel
theorem dX11_valueWith_25 : decode cX11_valueWith 25 = .ok (.iconst 2, 1) := by decide +kernel
theorem dX11_valueWith_26 : decode cX11_valueWith 26 = .ok (.invokevirtual 61, 3) := by decide +kernel
theorem dX11_valueWith_29 : decode cX11_valueWith 29 = .ok (.invokevirtual 103, 3) := by decide +kernel
theorem dX11_valueWith_32 : decode cX11_valueWith 32 = .ok (.istore 5, 2) := by decide +kernel
theorem dX11_valueWith_34 : decode cX11_valueWith 34 = .ok (.aload_n 0, 1) := by decide +kernel
theorem dX11_valueWith_35 : decode cX11_valueWith 35 = .ok (.iconst 0, 1) := by decide +kernel
theorem dX11_valueWith_36 : decode cX11_valueWith 36 = .ok (.aload_n 0, 1) := by decide +kernel
theorem dX11_valueWith_37 : decode cX11_valueWith 37 = .ok (.getfield 16, 3) := by decide +kernel
theorem dX11_valueWith_40 : decode cX11_valueWith 40 = .ok (.invokevirtual 146, 3) := by decide +kernel
theorem dX11_valueWith_43 : decode cX11_valueWith 43 = .ok (.iload 5, 2) := by decide +kernel
theorem dX11_valueWith_45 : decode cX11_valueWith 45 = .ok (.ireturn, 1) := by decide +kernel
theorem dX11_cousin_0 : decode cX11_cousin 0 = .ok (.aload_n 0, 1) := by decide +kernel
theorem dX11_cousin_1 : decode cX11_cousin 1 = .ok (.iload_n 1, 1) := by decide +kernel
theorem dX11_cousin_2 : decode cX11_cousin 2 = .ok (.invokevirtual 94, 3) := by decide +kernel
theorem dX11_cousin_5 : decode cX11_cousin 5 = .ok (.ifCond .eq 13, 3) := by decide +kernel
theorem dX11_cousin_8 : decode cX11_cousin 8 = .ok (.iload_n 2, 1) := by decide +kernel
theorem dX11_cousin_9 : decode cX11_cousin 9 = .ok (.iconst 1, 1) := by decide +kernel
theorem dX11_cousin_10 : decode cX11_cousin 10 = .ok (.bipush 80, 2) := by decide +kernel
theorem dX11_cousin_12 : decode cX11_cousin 12 = .ok (.invokestatic 45, 3) := by decide +kernel
theorem dX11_cousin_15 : decode cX11_cousin 15 = .ok (.ifCond .ne 10, 3) := by decide +kernel
theorem dX11_cousin_18 : decode cX11_cousin 18 = .ok (.aload_n 0, 1) := by decide +kernel
theorem dX11_cousin_19 : decode cX11_cousin 19 = .ok (.ldc 44, 2) := by decide +kernel
theorem dX11_cousin_21 : decode cX11_cousin 21 = .ok (.invokevirtual 57, 3) := by decide +kernel
theorem dX11_cousin_24 : decode cX11_cousin 24 = .ok (.ireturn, 1) := by decide +kernel
theorem dX11_cousin_25 : decode cX11_cousin 25 = .ok (.iconst (-1), 1) := by decide +kernel
theorem dX11_cousin_26 : decode cX11_cousin 26 = .ok (.istore_n 3, 1) := by decide +kernel
theorem dX11_cousin_27 : decode cX11_cousin 27 = .ok (.iconst (-1), 1) := by decide +kernel
theorem dX11_cousin_28 : decode cX11_cousin 28 = .ok (.istore 4, 2) := by decide +kernel
theorem dX11_cousin_30 : decode cX11_cousin 30 = .ok (.iconst (-1), 1) := by decide +kernel
theorem dX11_cousin_31 : decode cX11_cousin 31 = .ok (.istore 5, 2) := by decide +kernel
theorem dX11_cousin_33 : decode cX11_cousin 33 = .ok (.iload 5, 2) := by decide +kernel
theorem dX11_cousin_35 : decode cX11_cousin 35 = .ok (.aload_n 0, 1) := by decide +kernel
theorem dX11_cousin_36 : decode cX11_cousin 36 = .ok (.getfield 7, 3) := by decide +kernel
theorem dX11_cousin_39 : decode cX11_cousin 39 = .ok (.iconst 2, 1) := by decide +kernel
theorem dX11_cousin_40 : decode cX11_cousin 40 = .ok (.iaload, 1) := by decide +kernel
theorem dX11_cousin_41 : decode cX11_cousin 41 = .ok (.if_icmp .ge 57, 3) := by decide +kernel
theorem dX11_cousin_44 : decode cX11_cousin 44 = .ok (.aload_n 0, 1) := by decide +kernel
theorem dX11_cousin_45 : decode cX11_cousin 45 = .ok (.iload_n 1, 1) := by decide +kernel
theorem dX11_cousin_46 : decode cX11_cousin 46 = .ok (.iload_n 2, 1) := by decide +kernel
theorem dX11_cousin_47 : decode cX11_cousin 47 = .ok (.bipush 19, 2) := by decide +kernel
theorem dX11_cousin_49 : decode cX11_cousin 49 = .ok (.iconst 5, 1) := by decide +kernel
theorem dX11_cousin_50 : decode cX11_cousin 50 = .ok (.iload_n 1, 1) := by decide +kernel
theorem dX11_cousin_51 : decode cX11_cousin 51 = .ok (.imul, 1) := by decide +kernel
theorem dX11_cousin_52 : decode cX11_cousin 52 = .ok (.iadd, 1) := by decide +kernel
theorem dX11_cousin_53 : decode cX11_cousin 53 = .ok (.iconst 3, 1) := by decide +kernel
theorem dX11_cousin_54 : decode cX11_cousin 54 = .ok (.iadd, 1) := by decide +kernel
theorem dX11_cousin_55 : decode cX11_cousin 55 = .ok (.iload 5, 2) := by decide +kernel
theorem dX11_cousin_57 : decode cX11_cousin 57 = .ok (.invokevirtual 154, 3) := by decide +kernel
theorem dX11_cousin_60 : decode cX11_cousin 60 = .ok (.istore 6, 2) := by decide +kernel
theorem dX11_cousin_62 : decode cX11_cousin 62 = .ok (.iload 6, 2) := by decide +kernel
theorem dX11_cousin_64 : decode cX11_cousin 64 = .ok (.iload 4, 2) := by decide +kernel
theorem dX11_cousin_66 : decode cX11_cousin 66 = .ok (.if_icmp .le 8, 3) := by decide +kernel
theorem dX11_cousin_69 : decode cX11_cousin 69 = .ok (.iload 5, 2) := by decide +kernel
theorem dX11_cousin_71 : decode cX11_cousin 71 = .ok (.goto 4, 3) := by decide +kernel
theorem dX11_cousin_74 : decode cX11_cousin 74 = .ok (.iload_n 3, 1) := by decide +kernel
theorem dX11_cousin_75 : decode cX11_cousin 75 = .ok (.istore_n 3, 1) := by decide +kernel
theorem dX11_cousin_76 : decode cX11_cousin 76 = .ok (.iload 6, 2) := by decide +kernel
theorem dX11_cousin_78 : decode cX11_cousin 78 = .ok (.iload 4, 2) := by decide +kernel
theorem dX11_cousin_80 : decode cX11_cousin 80 = .ok (.if_icmp .le 8, 3) := by decide +kernel
theorem dX11_cousin_83 : decode cX11_cousin 83 = .ok (.iload 6, 2) := by decide +kernel
theorem dX11_cousin_85 : decode cX11_cousin 85 = .ok (.goto 5, 3) := by decide +kernel
theorem dX11_cousin_88 : decode cX11_cousin 88 = .ok (.iload 4, 2) := by decide +kernel
theorem dX11_cousin_90 : decode cX11_cousin 90 = .ok (.istore 4, 2) := by decide +kernel
theorem dX11_cousin_92 : decode cX11_cousin 92 = .ok (.iinc 5 1, 3) := by decide +kernel
theorem dX11_cousin_95 : decode cX11_cousin 95 = .ok (.goto (-62), 3) := by decide +kernel
theorem dX11_cousin_98 : decode cX11_cousin 98 = .ok (.iconst 1, 1) := by decide +kernel
theorem dX11_cousin_99 : decode cX11_cousin 99 = .ok (.iload_n 3, 1) := by decide +kernel
theorem dX11_cousin_100 : decode cX11_cousin 100 = .ok (.iadd, 1) := by decide +kernel
theorem dX11_cousin_101 : decode cX11_cousin 101 = .ok (.ireturn, 1) := by decide +kernel
theorem dX11_kind_0 : decode cX11_kind 0 = .ok (.aload_n 0, 1) := by decide +kernel
theorem dX11_kind_1 : decode cX11_kind 1 = .ok (.iload_n 1, 1) := by decide +kernel
theorem dX11_kind_2 : decode cX11_kind 2 = .ok (.invokevirtual 94, 3) := by decide +kernel
theorem dX11_kind_5 : decode cX11_kind 5 = .ok (.ifCond .eq 13, 3) := by decide +kernel
theorem dX11_kind_8 : decode cX11_kind 8 = .ok (.iload_n 2, 1) := by decide +kernel
theorem dX11_kind_9 : decode cX11_kind 9 = .ok (.iconst 1, 1) := by decide +kernel
theorem dX11_kind_10 : decode cX11_kind 10 = .ok (.bipush 80, 2) := by decide +kernel
theorem dX11_kind_12 : decode cX11_kind 12 = .ok (.invokestatic 45, 3) := by decide +kernel
theorem dX11_kind_15 : decode cX11_kind 15 = .ok (.ifCond .ne 10, 3) := by decide +kernel
theorem dX11_kind_18 : decode cX11_kind 18 = .ok (.aload_n 0, 1) := by decide +kernel
theorem dX11_kind_19 : decode cX11_kind 19 = .ok (.ldc 44, 2) := by decide +kernel
theorem dX11_kind_21 : decode cX11_kind 21 = .ok (.invokevirtual 57, 3) := by decide +kernel
theorem dX11_kind_24 : decode cX11_kind 24 = .ok (.ireturn, 1) := by decide +kernel
theorem dX11_kind_25 : decode cX11_kind 25 = .ok (.iconst 0, 1) := by decide +kernel
theorem dX11_kind_26 : decode cX11_kind 26 = .ok (.istore_n 3, 1) := by decide +kernel
theorem dX11_kind_27 : decode cX11_kind 27 = .ok (.iconst (-1), 1) := by decide +kernel
theorem dX11_kind_28 : decode cX11_kind 28 = .ok (.istore 4, 2) := by decide +kernel
theorem dX11_kind_30 : decode cX11_kind 30 = .ok (.iconst 0, 1) := by decide +kernel
theorem dX11_kind_31 : decode cX11_kind 31 = .ok (.istore 5, 2) := by decide +kernel
theorem dX11_kind_33 : decode cX11_kind 33 = .ok (.iload 5, 2) := by decide +kernel
theorem dX11_kind_35 : decode cX11_kind 35 = .ok (.iconst 5, 1) := by decide +kernel
theorem dX11_kind_36 : decode cX11_kind 36 = .ok (.if_icmp .gt 55, 3) := by decide +kernel
theorem dX11_kind_39 : decode cX11_kind 39 = .ok (.aload_n 0, 1) := by decide +kernel
theorem dX11_kind_40 : decode cX11_kind 40 = .ok (.iload_n 1, 1) := by decide +kernel
theorem dX11_kind_41 : decode cX11_kind 41 = .ok (.iload_n 2, 1) := by decide +kernel
theorem dX11_kind_42 : decode cX11_kind 42 = .ok (.bipush 19, 2) := by decide +kernel
theorem dX11_kind_44 : decode cX11_kind 44 = .ok (.iconst 5, 1) := by decide +kernel
theorem dX11_kind_45 : decode cX11_kind 45 = .ok (.iload_n 1, 1) := by decide +kernel
theorem dX11_kind_46 : decode cX11_kind 46 = .ok (.imul, 1) := by decide +kernel
theorem dX11_kind_47 : decode cX11_kind 47 = .ok (.iadd, 1) := by decide +kernel
theorem dX11_kind_48 : decode cX11_kind 48 = .ok (.iload 5, 2) := by decide +kernel
theorem dX11_kind_50 : decode cX11_kind 50 = .ok (.invokevirtual 154, 3) := by decide +kernel
theorem dX11_kind_53 : decode cX11_kind 53 = .ok (.istore 6, 2) := by decide +kernel
theorem dX11_kind_55 : decode cX11_kind 55 = .ok (.iload 6, 2) := by decide +kernel
theorem dX11_kind_57 : decode cX11_kind 57 = .ok (.iload 4, 2) := by decide +kernel
theorem dX11_kind_59 : decode cX11_kind 59 = .ok (.if_icmp .le 8, 3) := by decide +kernel
theorem dX11_kind_62 : decode cX11_kind 62 = .ok (.iload 5, 2) := by decide +kernel
theorem dX11_kind_64 : decode cX11_kind 64 = .ok (.goto 4, 3) := by decide +kernel
theorem dX11_kind_67 : decode cX11_kind 67 = .ok (.iload_n 3, 1) := by decide +kernel
theorem dX11_kind_68 : decode cX11_kind 68 = .ok (.istore_n 3, 1) := by decide +kernel
theorem dX11_kind_69 : decode cX11_kind 69 = .ok (.iload 6, 2) := by decide +kernel
theorem dX11_kind_71 : decode cX11_kind 71 = .ok (.iload 4, 2) := by decide +kernel
theorem dX11_kind_73 : decode cX11_kind 73 = .ok (.if_icmp .le 8, 3) := by decide +kernel
theorem dX11_kind_76 : decode cX11_kind 76 = .ok (.iload 6, 2) := by decide +kernel
theorem dX11_kind_78 : decode cX11_kind 78 = .ok (.goto 5, 3) := by decide +kernel
theorem dX11_kind_81 : decode cX11_kind 81 = .ok (.iload 4, 2) := by decide +kernel
theorem dX11_kind_83 : decode cX11_kind 83 = .ok (.istore 4, 2) := by decide +kernel
theorem dX11_kind_85 : decode cX11_kind 85 = .ok (.iinc 5 1, 3) := by decide +kernel
theorem dX11_kind_88 : decode cX11_kind 88 = .ok (.goto (-55), 3) := by decide +kernel
theorem dX11_kind_91 : decode cX11_kind 91 = .ok (.iload_n 3, 1) := by decide +kernel
theorem dX11_kind_92 : decode cX11_kind 92 = .ok (.ireturn, 1) := by decide +kernel
theorem dX11_keep_0 : decode cX11_keep 0 = .ok (.aload_n 0, 1) := by decide +kernel
theorem dX11_keep_1 : decode cX11_keep 1 = .ok (.iload_n 1, 1) := by decide +kernel
theorem dX11_keep_2 : decode cX11_keep 2 = .ok (.invokevirtual 94, 3) := by decide +kernel
theorem dX11_keep_5 : decode cX11_keep 5 = .ok (.ifCond .eq 20, 3) := by decide +kernel
theorem dX11_keep_8 : decode cX11_keep 8 = .ok (.iload_n 2, 1) := by decide +kernel
theorem dX11_keep_9 : decode cX11_keep 9 = .ok (.invokestatic 49, 3) := by decide +kernel
theorem dX11_keep_12 : decode cX11_keep 12 = .ok (.ifCond .eq 13, 3) := by decide +kernel
theorem dX11_keep_15 : decode cX11_keep 15 = .ok (.iload_n 3, 1) := by decide +kernel
theorem dX11_keep_16 : decode cX11_keep 16 = .ok (.iconst 1, 1) := by decide +kernel
theorem dX11_keep_17 : decode cX11_keep 17 = .ok (.bipush 80, 2) := by decide +kernel
theorem dX11_keep_19 : decode cX11_keep 19 = .ok (.invokestatic 45, 3) := by decide +kernel
theorem dX11_keep_22 : decode cX11_keep 22 = .ok (.ifCond .ne 10, 3) := by decide +kernel
theorem dX11_keep_25 : decode cX11_keep 25 = .ok (.aload_n 0, 1) := by decide +kernel
theorem dX11_keep_26 : decode cX11_keep 26 = .ok (.ldc 44, 2) := by decide +kernel
theorem dX11_keep_28 : decode cX11_keep 28 = .ok (.invokevirtual 57, 3) := by decide +kernel
theorem dX11_keep_31 : decode cX11_keep 31 = .ok (.ireturn, 1) := by decide +kernel
theorem dX11_keep_32 : decode cX11_keep 32 = .ok (.iconst (-1), 1) := by decide +kernel
theorem dX11_keep_33 : decode cX11_keep 33 = .ok (.istore 4, 2) := by decide +kernel
theorem dX11_keep_35 : decode cX11_keep 35 = .ok (.iconst 0, 1) := by decide +kernel
theorem dX11_keep_36 : decode cX11_keep 36 = .ok (.istore 5, 2) := by decide +kernel
theorem dX11_keep_38 : decode cX11_keep 38 = .ok (.aload_n 0, 1) := by decide +kernel
theorem dX11_keep_39 : decode cX11_keep 39 = .ok (.iconst 1, 1) := by decide +kernel
theorem dX11_keep_40 : decode cX11_keep 40 = .ok (.aload_n 0, 1) := by decide +kernel
theorem dX11_keep_41 : decode cX11_keep 41 = .ok (.getfield 16, 3) := by decide +kernel
theorem dX11_keep_44 : decode cX11_keep 44 = .ok (.invokevirtual 146, 3) := by decide +kernel
theorem dX11_keep_47 : decode cX11_keep 47 = .ok (.iload 4, 2) := by decide +kernel
theorem dX11_keep_49 : decode cX11_keep 49 = .ok (.bipush 99, 2) := by decide +kernel
theorem dX11_keep_51 : decode cX11_keep 51 = .ok (.if_icmp .ge 46, 3) := by decide +kernel
theorem dX11_keep_54 : decode cX11_keep 54 = .ok (.iload 5, 2) := by decide +kernel
theorem dX11_keep_56 : decode cX11_keep 56 = .ok (.ifCond .ne 41, 3) := by decide +kernel
theorem dX11_keep_59 : decode cX11_keep 59 = .ok (.iinc 4 1, 3) := by decide +kernel
theorem dX11_keep_62 : decode cX11_keep 62 = .ok (.aload_n 0, 1) := by decide +kernel
theorem dX11_keep_63 : decode cX11_keep 63 = .ok (.getfield 7, 3) := by decide +kernel
theorem dX11_keep_66 : decode cX11_keep 66 = .ok (.iconst 3, 1) := by decide +kernel
theorem dX11_keep_67 : decode cX11_keep 67 = .ok (.iload_n 2, 1) := by decide +kernel
theorem dX11_keep_68 : decode cX11_keep 68 = .ok (.iadd, 1) := by decide +kernel
theorem dX11_keep_69 : decode cX11_keep 69 = .ok (.iload 4, 2) := by decide +kernel
theorem dX11_keep_71 : decode cX11_keep 71 = .ok (.iastore, 1) := by decide +kernel
theorem dX11_keep_72 : decode cX11_keep 72 = .ok (.aload_n 0, 1) := by decide +kernel
theorem dX11_keep_73 : decode cX11_keep 73 = .ok (.iload_n 3, 1) := by decide +kernel
theorem dX11_keep_74 : decode cX11_keep 74 = .ok (.invokevirtual 130, 3) := by decide +kernel
theorem dX11_keep_77 : decode cX11_keep 77 = .ok (.aload_n 0, 1) := by decide +kernel
theorem dX11_keep_78 : decode cX11_keep 78 = .ok (.iload_n 1, 1) := by decide +kernel
theorem dX11_keep_79 : decode cX11_keep 79 = .ok (.iload_n 2, 1) := by decide +kernel
theorem dX11_keep_80 : decode cX11_keep 80 = .ok (.invokevirtual 112, 3) := by decide +kernel
theorem dX11_keep_83 : decode cX11_keep 83 = .ok (.istore 5, 2) := by decide +kernel
theorem dX11_keep_85 : decode cX11_keep 85 = .ok (.aload_n 0, 1) := by decide +kernel
theorem dX11_keep_86 : decode cX11_keep 86 = .ok (.iconst 0, 1) := by decide +kernel
theorem dX11_keep_87 : decode cX11_keep 87 = .ok (.aload_n 0, 1) := by decide +kernel
theorem dX11_keep_88 : decode cX11_keep 88 = .ok (.getfield 16, 3) := by decide +kernel
theorem dX11_keep_91 : decode cX11_keep 91 = .ok (.invokevirtual 146, 3) := by decide +kernel
theorem dX11_keep_94 : decode cX11_keep 94 = .ok (.goto (-47), 3) := by decide +kernel
theorem dX11_keep_97 : decode cX11_keep 97 = .ok (.iload 5, 2) := by decide +kernel
theorem dX11_keep_99 : decode cX11_keep 99 = .ok (.ifCond .eq 8, 3) := by decide +kernel
theorem dX11_keep_102 : decode cX11_keep 102 = .ok (.iload 4, 2) := by decide +kernel
theorem dX11_keep_104 : decode cX11_keep 104 = .ok (.goto 9, 3) := by decide +kernel
theorem dX11_keep_107 : decode cX11_keep 107 = .ok (.aload_n 0, 1) := by decide +kernel
theorem dX11_keep_108 : decode cX11_keep 108 = .ok (.ldc 150, 2) := by decide +kernel
theorem dX11_keep_110 : decode cX11_keep 110 = .ok (.invokevirtual 57, 3) := by decide +kernel
theorem dX11_keep_113 : decode cX11_keep 113 = .ok (.ireturn, 1) := by decide +kernel
theorem dX11_best_0 : decode cX11_best 0 = .ok (.aload_n 0, 1) := by decide +kernel
theorem dX11_best_1 : decode cX11_best 1 = .ok (.iload_n 1, 1) := by decide +kernel
theorem dX11_best_2 : decode cX11_best 2 = .ok (.invokevirtual 94, 3) := by decide +kernel
theorem dX11_best_5 : decode cX11_best 5 = .ok (.ifCond .eq 13, 3) := by decide +kernel
theorem dX11_best_8 : decode cX11_best 8 = .ok (.iload_n 2, 1) := by decide +kernel
theorem dX11_best_9 : decode cX11_best 9 = .ok (.iconst 1, 1) := by decide +kernel
theorem dX11_best_10 : decode cX11_best 10 = .ok (.bipush 80, 2) := by decide +kernel
theorem dX11_best_12 : decode cX11_best 12 = .ok (.invokestatic 45, 3) := by decide +kernel
theorem dX11_best_15 : decode cX11_best 15 = .ok (.ifCond .ne 10, 3) := by decide +kernel
theorem dX11_best_18 : decode cX11_best 18 = .ok (.aload_n 0, 1) := by decide +kernel
theorem dX11_best_19 : decode cX11_best 19 = .ok (.ldc 44, 2) := by decide +kernel
theorem dX11_best_21 : decode cX11_best 21 = .ok (.invokevirtual 57, 3) := by decide +kernel
theorem dX11_best_24 : decode cX11_best 24 = .ok (.ireturn, 1) := by decide +kernel
theorem dX11_best_25 : decode cX11_best 25 = .ok (.iconst (-1), 1) := by decide +kernel
theorem dX11_best_26 : decode cX11_best 26 = .ok (.istore_n 3, 1) := by decide +kernel
theorem dX11_best_27 : decode cX11_best 27 = .ok (.iconst (-1), 1) := by decide +kernel
theorem dX11_best_28 : decode cX11_best 28 = .ok (.istore 4, 2) := by decide +kernel
theorem dX11_best_30 : decode cX11_best 30 = .ok (.iconst 0, 1) := by decide +kernel
theorem dX11_best_31 : decode cX11_best 31 = .ok (.istore 5, 2) := by decide +kernel
theorem dX11_best_33 : decode cX11_best 33 = .ok (.iload 5, 2) := by decide +kernel
theorem dX11_best_35 : decode cX11_best 35 = .ok (.bipush 16, 2) := by decide +kernel
theorem dX11_best_37 : decode cX11_best 37 = .ok (.if_icmp .ge 80, 3) := by decide +kernel
theorem dX11_best_40 : decode cX11_best 40 = .ok (.aload_n 0, 1) := by decide +kernel
theorem dX11_best_41 : decode cX11_best 41 = .ok (.iload_n 1, 1) := by decide +kernel
theorem dX11_best_42 : decode cX11_best 42 = .ok (.iload 5, 2) := by decide +kernel
theorem dX11_best_44 : decode cX11_best 44 = .ok (.invokevirtual 112, 3) := by decide +kernel
theorem dX11_best_47 : decode cX11_best 47 = .ok (.ifCond .eq 7, 3) := by decide +kernel
theorem dX11_best_50 : decode cX11_best 50 = .ok (.iconst (-1), 1) := by decide +kernel
theorem dX11_best_51 : decode cX11_best 51 = .ok (.goto 28, 3) := by decide +kernel
theorem dX11_best_54 : decode cX11_best 54 = .ok (.aload_n 0, 1) := by decide +kernel
theorem dX11_best_55 : decode cX11_best 55 = .ok (.iload_n 1, 1) := by decide +kernel
theorem dX11_best_56 : decode cX11_best 56 = .ok (.iload_n 2, 1) := by decide +kernel
theorem dX11_best_57 : decode cX11_best 57 = .ok (.bipush 19, 2) := by decide +kernel
theorem dX11_best_59 : decode cX11_best 59 = .ok (.iconst 5, 1) := by decide +kernel
theorem dX11_best_60 : decode cX11_best 60 = .ok (.iload_n 1, 1) := by decide +kernel
theorem dX11_best_61 : decode cX11_best 61 = .ok (.imul, 1) := by decide +kernel
theorem dX11_best_62 : decode cX11_best 62 = .ok (.iadd, 1) := by decide +kernel
theorem dX11_best_63 : decode cX11_best 63 = .ok (.iconst 2, 1) := by decide +kernel
theorem dX11_best_64 : decode cX11_best 64 = .ok (.iadd, 1) := by decide +kernel
theorem dX11_best_65 : decode cX11_best 65 = .ok (.aload_n 0, 1) := by decide +kernel
theorem dX11_best_66 : decode cX11_best 66 = .ok (.iload_n 1, 1) := by decide +kernel
theorem dX11_best_67 : decode cX11_best 67 = .ok (.iconst 2, 1) := by decide +kernel
theorem dX11_best_68 : decode cX11_best 68 = .ok (.invokevirtual 61, 3) := by decide +kernel
theorem dX11_best_71 : decode cX11_best 71 = .ok (.iconst 1, 1) := by decide +kernel
theorem dX11_best_72 : decode cX11_best 72 = .ok (.iload 5, 2) := by decide +kernel
theorem dX11_best_74 : decode cX11_best 74 = .ok (.ishl, 1) := by decide +kernel
theorem dX11_best_75 : decode cX11_best 75 = .ok (.ior, 1) := by decide +kernel
theorem dX11_best_76 : decode cX11_best 76 = .ok (.invokevirtual 154, 3) := by decide +kernel
theorem dX11_best_79 : decode cX11_best 79 = .ok (.istore 6, 2) := by decide +kernel
theorem dX11_best_81 : decode cX11_best 81 = .ok (.iload 6, 2) := by decide +kernel
theorem dX11_best_83 : decode cX11_best 83 = .ok (.iload 4, 2) := by decide +kernel
theorem dX11_best_85 : decode cX11_best 85 = .ok (.if_icmp .le 8, 3) := by decide +kernel
theorem dX11_best_88 : decode cX11_best 88 = .ok (.iload 5, 2) := by decide +kernel
theorem dX11_best_90 : decode cX11_best 90 = .ok (.goto 4, 3) := by decide +kernel
theorem dX11_best_93 : decode cX11_best 93 = .ok (.iload_n 3, 1) := by decide +kernel
theorem dX11_best_94 : decode cX11_best 94 = .ok (.istore_n 3, 1) := by decide +kernel
theorem dX11_best_95 : decode cX11_best 95 = .ok (.iload 6, 2) := by decide +kernel
theorem dX11_best_97 : decode cX11_best 97 = .ok (.iload 4, 2) := by decide +kernel
theorem dX11_best_99 : decode cX11_best 99 = .ok (.if_icmp .le 8, 3) := by decide +kernel
theorem dX11_best_102 : decode cX11_best 102 = .ok (.iload 6, 2) := by decide +kernel
theorem dX11_best_104 : decode cX11_best 104 = .ok (.goto 5, 3) := by decide +kernel
theorem dX11_best_107 : decode cX11_best 107 = .ok (.iload 4, 2) := by decide +kernel
theorem dX11_best_109 : decode cX11_best 109 = .ok (.istore 4, 2) := by decide +kernel
theorem dX11_best_111 : decode cX11_best 111 = .ok (.iinc 5 1, 3) := by decide +kernel
theorem dX11_best_114 : decode cX11_best 114 = .ok (.goto (-81), 3) := by decide +kernel
theorem dX11_best_117 : decode cX11_best 117 = .ok (.iload_n 3, 1) := by decide +kernel
theorem dX11_best_118 : decode cX11_best 118 = .ok (.ifCond .ge 12, 3) := by decide +kernel
theorem dX11_best_121 : decode cX11_best 121 = .ok (.aload_n 0, 1) := by decide +kernel
theorem dX11_best_122 : decode cX11_best 122 = .ok (.ldc 150, 2) := by decide +kernel
theorem dX11_best_124 : decode cX11_best 124 = .ok (.invokevirtual 57, 3) := by decide +kernel
theorem dX11_best_127 : decode cX11_best 127 = .ok (.goto 4, 3) := by decide +kernel
theorem dX11_best_130 : decode cX11_best 130 = .ok (.iload_n 3, 1) := by decide +kernel
theorem dX11_best_131 : decode cX11_best 131 = .ok (.ireturn, 1) := by decide +kernel
theorem dX11_richest_0 : decode cX11_richest 0 = .ok (.iload_n 1, 1) := by decide +kernel
theorem dX11_richest_1 : decode cX11_richest 1 = .ok (.iconst 0, 1) := by decide +kernel
theorem dX11_richest_2 : decode cX11_richest 2 = .ok (.bipush 80, 2) := by decide +kernel
theorem dX11_richest_4 : decode cX11_richest 4 = .ok (.invokestatic 45, 3) := by decide +kernel
theorem dX11_richest_7 : decode cX11_richest 7 = .ok (.ifCond .ne 10, 3) := by decide +kernel
theorem dX11_richest_10 : decode cX11_richest 10 = .ok (.aload_n 0, 1) := by decide +kernel
theorem dX11_richest_11 : decode cX11_richest 11 = .ok (.ldc 44, 2) := by decide +kernel
theorem dX11_richest_13 : decode cX11_richest 13 = .ok (.invokevirtual 57, 3) := by decide +kernel
theorem dX11_richest_16 : decode cX11_richest 16 = .ok (.ireturn, 1) := by decide +kernel
theorem dX11_richest_17 : decode cX11_richest 17 = .ok (.aload_n 0, 1) := by decide +kernel
theorem dX11_richest_18 : decode cX11_richest 18 = .ok (.getfield 7, 3) := by decide +kernel
theorem dX11_richest_21 : decode cX11_richest 21 = .ok (.iconst 2, 1) := by decide +kernel
theorem dX11_richest_22 : decode cX11_richest 22 = .ok (.iaload, 1) := by decide +kernel
theorem dX11_richest_23 : decode cX11_richest 23 = .ok (.ifCond .ne 10, 3) := by decide +kernel
theorem dX11_richest_26 : decode cX11_richest 26 = .ok (.aload_n 0, 1) := by decide +kernel
theorem dX11_richest_27 : decode cX11_richest 27 = .ok (.ldc 150, 2) := by decide +kernel
theorem dX11_richest_29 : decode cX11_richest 29 = .ok (.invokevirtual 57, 3) := by decide +kernel
theorem dX11_richest_32 : decode cX11_richest 32 = .ok (.ireturn, 1) := by decide +kernel
theorem dX11_richest_33 : decode cX11_richest 33 = .ok (.iconst 0, 1) := by decide +kernel
theorem dX11_richest_34 : decode cX11_richest 34 = .ok (.istore_n 2, 1) := by decide +kernel
theorem dX11_richest_35 : decode cX11_richest 35 = .ok (.aload_n 0, 1) := by decide +kernel
theorem dX11_richest_36 : decode cX11_richest 36 = .ok (.iconst 1, 1) := by decide +kernel
theorem dX11_richest_37 : decode cX11_richest 37 = .ok (.aload_n 0, 1) := by decide +kernel
theorem dX11_richest_38 : decode cX11_richest 38 = .ok (.getfield 16, 3) := by decide +kernel
theorem dX11_richest_41 : decode cX11_richest 41 = .ok (.invokevirtual 146, 3) := by decide +kernel
theorem dX11_richest_44 : decode cX11_richest 44 = .ok (.aload_n 0, 1) := by decide +kernel
theorem dX11_richest_45 : decode cX11_richest 45 = .ok (.iload_n 1, 1) := by decide +kernel
theorem dX11_richest_46 : decode cX11_richest 46 = .ok (.invokevirtual 130, 3) := by decide +kernel
theorem dX11_richest_49 : decode cX11_richest 49 = .ok (.iconst 1, 1) := by decide +kernel
theorem dX11_richest_50 : decode cX11_richest 50 = .ok (.istore_n 3, 1) := by decide +kernel
theorem dX11_richest_51 : decode cX11_richest 51 = .ok (.iload_n 3, 1) := by decide +kernel
theorem dX11_richest_52 : decode cX11_richest 52 = .ok (.aload_n 0, 1) := by decide +kernel
theorem dX11_richest_53 : decode cX11_richest 53 = .ok (.getfield 7, 3) := by decide +kernel
theorem dX11_richest_56 : decode cX11_richest 56 = .ok (.iconst 2, 1) := by decide +kernel
theorem dX11_richest_57 : decode cX11_richest 57 = .ok (.iaload, 1) := by decide +kernel
theorem dX11_richest_58 : decode cX11_richest 58 = .ok (.if_icmp .ge 38, 3) := by decide +kernel
theorem dX11_richest_61 : decode cX11_richest 61 = .ok (.aload_n 0, 1) := by decide +kernel
theorem dX11_richest_62 : decode cX11_richest 62 = .ok (.aload_n 0, 1) := by decide +kernel
theorem dX11_richest_63 : decode cX11_richest 63 = .ok (.iload_n 3, 1) := by decide +kernel
theorem dX11_richest_64 : decode cX11_richest 64 = .ok (.iconst 2, 1) := by decide +kernel
theorem dX11_richest_65 : decode cX11_richest 65 = .ok (.invokevirtual 61, 3) := by decide +kernel
theorem dX11_richest_68 : decode cX11_richest 68 = .ok (.invokevirtual 103, 3) := by decide +kernel
theorem dX11_richest_71 : decode cX11_richest 71 = .ok (.aload_n 0, 1) := by decide +kernel
theorem dX11_richest_72 : decode cX11_richest 72 = .ok (.aload_n 0, 1) := by decide +kernel
theorem dX11_richest_73 : decode cX11_richest 73 = .ok (.iload_n 2, 1) := by decide +kernel
theorem dX11_richest_74 : decode cX11_richest 74 = .ok (.iconst 2, 1) := by decide +kernel
theorem dX11_richest_75 : decode cX11_richest 75 = .ok (.invokevirtual 61, 3) := by decide +kernel
theorem dX11_richest_78 : decode cX11_richest 78 = .ok (.invokevirtual 103, 3) := by decide +kernel
theorem dX11_richest_81 : decode cX11_richest 81 = .ok (.if_icmp .le 7, 3) := by decide +kernel
theorem dX11_richest_84 : decode cX11_richest 84 = .ok (.iload_n 3, 1) := by decide +kernel
theorem dX11_richest_85 : decode cX11_richest 85 = .ok (.goto 4, 3) := by decide +kernel
theorem dX11_richest_88 : decode cX11_richest 88 = .ok (.iload_n 2, 1) := by decide +kernel
theorem dX11_richest_89 : decode cX11_richest 89 = .ok (.istore_n 2, 1) := by decide +kernel
theorem dX11_richest_90 : decode cX11_richest 90 = .ok (.iinc 3 1, 3) := by decide +kernel
theorem dX11_richest_93 : decode cX11_richest 93 = .ok (.goto (-42), 3) := by decide +kernel
theorem dX11_richest_96 : decode cX11_richest 96 = .ok (.aload_n 0, 1) := by decide +kernel
theorem dX11_richest_97 : decode cX11_richest 97 = .ok (.iconst 0, 1) := by decide +kernel
theorem dX11_richest_98 : decode cX11_richest 98 = .ok (.aload_n 0, 1) := by decide +kernel
theorem dX11_richest_99 : decode cX11_richest 99 = .ok (.getfield 16, 3) := by decide +kernel
theorem dX11_richest_102 : decode cX11_richest 102 = .ok (.invokevirtual 146, 3) := by decide +kernel
theorem dX11_richest_105 : decode cX11_richest 105 = .ok (.iload_n 2, 1) := by decide +kernel
theorem dX11_richest_106 : decode cX11_richest 106 = .ok (.ireturn, 1) := by decide +kernel
theorem dX11_fewest_0 : decode cX11_fewest 0 = .ok (.aload_n 0, 1) := by decide +kernel
theorem dX11_fewest_1 : decode cX11_fewest 1 = .ok (.iload_n 1, 1) := by decide +kernel
theorem dX11_fewest_2 : decode cX11_fewest 2 = .ok (.invokevirtual 94, 3) := by decide +kernel
theorem dX11_fewest_5 : decode cX11_fewest 5 = .ok (.ifCond .eq 20, 3) := by decide +kernel
theorem dX11_fewest_8 : decode cX11_fewest 8 = .ok (.iload_n 2, 1) := by decide +kernel
theorem dX11_fewest_9 : decode cX11_fewest 9 = .ok (.invokestatic 49, 3) := by decide +kernel
theorem dX11_fewest_12 : decode cX11_fewest 12 = .ok (.ifCond .eq 13, 3) := by decide +kernel
theorem dX11_fewest_15 : decode cX11_fewest 15 = .ok (.iload_n 3, 1) := by decide +kernel
theorem dX11_fewest_16 : decode cX11_fewest 16 = .ok (.iconst 1, 1) := by decide +kernel
theorem dX11_fewest_17 : decode cX11_fewest 17 = .ok (.bipush 20, 2) := by decide +kernel
theorem dX11_fewest_19 : decode cX11_fewest 19 = .ok (.invokestatic 45, 3) := by decide +kernel
theorem dX11_fewest_22 : decode cX11_fewest 22 = .ok (.ifCond .ne 10, 3) := by decide +kernel
theorem dX11_fewest_25 : decode cX11_fewest 25 = .ok (.aload_n 0, 1) := by decide +kernel
theorem dX11_fewest_26 : decode cX11_fewest 26 = .ok (.ldc 44, 2) := by decide +kernel
theorem dX11_fewest_28 : decode cX11_fewest 28 = .ok (.invokevirtual 57, 3) := by decide +kernel
theorem dX11_fewest_31 : decode cX11_fewest 31 = .ok (.ireturn, 1) := by decide +kernel
theorem dX11_fewest_32 : decode cX11_fewest 32 = .ok (.aload_n 0, 1) := by decide +kernel
theorem dX11_fewest_33 : decode cX11_fewest 33 = .ok (.iload_n 1, 1) := by decide +kernel
theorem dX11_fewest_34 : decode cX11_fewest 34 = .ok (.iload_n 2, 1) := by decide +kernel
theorem dX11_fewest_35 : decode cX11_fewest 35 = .ok (.invokevirtual 112, 3) := by decide +kernel
theorem dX11_fewest_38 : decode cX11_fewest 38 = .ok (.ifCond .ne 10, 3) := by decide +kernel
theorem dX11_fewest_41 : decode cX11_fewest 41 = .ok (.aload_n 0, 1) := by decide +kernel
theorem dX11_fewest_42 : decode cX11_fewest 42 = .ok (.ldc 115, 2) := by decide +kernel
theorem dX11_fewest_44 : decode cX11_fewest 44 = .ok (.invokevirtual 57, 3) := by decide +kernel
theorem dX11_fewest_47 : decode cX11_fewest 47 = .ok (.ireturn, 1) := by decide +kernel
theorem dX11_fewest_48 : decode cX11_fewest 48 = .ok (.aload_n 0, 1) := by decide +kernel
theorem dX11_fewest_49 : decode cX11_fewest 49 = .ok (.iload_n 1, 1) := by decide +kernel
theorem dX11_fewest_50 : decode cX11_fewest 50 = .ok (.iconst 2, 1) := by decide +kernel
theorem dX11_fewest_51 : decode cX11_fewest 51 = .ok (.invokevirtual 61, 3) := by decide +kernel
theorem dX11_fewest_54 : decode cX11_fewest 54 = .ok (.iload_n 2, 1) := by decide +kernel
theorem dX11_fewest_55 : decode cX11_fewest 55 = .ok (.invokestatic 67, 3) := by decide +kernel
theorem dX11_fewest_58 : decode cX11_fewest 58 = .ok (.istore 4, 2) := by decide +kernel
theorem dX11_fewest_60 : decode cX11_fewest 60 = .ok (.iload 4, 2) := by decide +kernel
theorem dX11_fewest_62 : decode cX11_fewest 62 = .ok (.invokestatic 79, 3) := by decide +kernel
theorem dX11_fewest_65 : decode cX11_fewest 65 = .ok (.bipush 8, 2) := by decide +kernel
theorem dX11_fewest_67 : decode cX11_fewest 67 = .ok (.if_icmp .le 10, 3) := by decide +kernel
theorem dX11_fewest_70 : decode cX11_fewest 70 = .ok (.aload_n 0, 1) := by decide +kernel
theorem dX11_fewest_71 : decode cX11_fewest 71 = .ok (.ldc 158, 2) := by decide +kernel
theorem dX11_fewest_73 : decode cX11_fewest 73 = .ok (.invokevirtual 57, 3) := by decide +kernel
theorem dX11_fewest_76 : decode cX11_fewest 76 = .ok (.ireturn, 1) := by decide +kernel
theorem dX11_fewest_77 : decode cX11_fewest 77 = .ok (.iconst (-1), 1) := by decide +kernel
theorem dX11_fewest_78 : decode cX11_fewest 78 = .ok (.istore 5, 2) := by decide +kernel
theorem dX11_fewest_80 : decode cX11_fewest 80 = .ok (.aload_n 0, 1) := by decide +kernel
theorem dX11_fewest_81 : decode cX11_fewest 81 = .ok (.iconst 1, 1) := by decide +kernel
theorem dX11_fewest_82 : decode cX11_fewest 82 = .ok (.aload_n 0, 1) := by decide +kernel
theorem dX11_fewest_83 : decode cX11_fewest 83 = .ok (.getfield 16, 3) := by decide +kernel
theorem dX11_fewest_86 : decode cX11_fewest 86 = .ok (.invokevirtual 146, 3) := by decide +kernel
theorem dX11_fewest_89 : decode cX11_fewest 89 = .ok (.iload 4, 2) := by decide +kernel
theorem dX11_fewest_91 : decode cX11_fewest 91 = .ok (.istore 6, 2) := by decide +kernel
theorem dX11_fewest_93 : decode cX11_fewest 93 = .ok (.iload 6, 2) := by decide +kernel
theorem dX11_fewest_95 : decode cX11_fewest 95 = .ok (.ifCond .lt 91, 3) := by decide +kernel
theorem dX11_fewest_98 : decode cX11_fewest 98 = .ok (.iload 5, 2) := by decide +kernel
theorem dX11_fewest_100 : decode cX11_fewest 100 = .ok (.ifCond .lt 16, 3) := by decide +kernel
theorem dX11_fewest_103 : decode cX11_fewest 103 = .ok (.iload 6, 2) := by decide +kernel
theorem dX11_fewest_105 : decode cX11_fewest 105 = .ok (.invokestatic 79, 3) := by decide +kernel
theorem dX11_fewest_108 : decode cX11_fewest 108 = .ok (.iload 5, 2) := by decide +kernel
theorem dX11_fewest_110 : decode cX11_fewest 110 = .ok (.invokestatic 79, 3) := by decide +kernel
theorem dX11_fewest_113 : decode cX11_fewest 113 = .ok (.if_icmp .gt 52, 3) := by decide +kernel
theorem dX11_fewest_116 : decode cX11_fewest 116 = .ok (.aload_n 0, 1) := by decide +kernel
theorem dX11_fewest_117 : decode cX11_fewest 117 = .ok (.iload_n 1, 1) := by decide +kernel
theorem dX11_fewest_118 : decode cX11_fewest 118 = .ok (.iconst 2, 1) := by decide +kernel
theorem dX11_fewest_119 : decode cX11_fewest 119 = .ok (.aload_n 0, 1) := by decide +kernel
theorem dX11_fewest_120 : decode cX11_fewest 120 = .ok (.iload_n 1, 1) := by decide +kernel
theorem dX11_fewest_121 : decode cX11_fewest 121 = .ok (.iconst 2, 1) := by decide +kernel
theorem dX11_fewest_122 : decode cX11_fewest 122 = .ok (.invokevirtual 61, 3) := by decide +kernel
theorem dX11_fewest_125 : decode cX11_fewest 125 = .ok (.iload 6, 2) := by decide +kernel
theorem dX11_fewest_127 : decode cX11_fewest 127 = .ok (.iconst (-1), 1) := by decide +kernel
theorem dX11_fewest_128 : decode cX11_fewest 128 = .ok (.ixor, 1) := by decide +kernel
theorem dX11_fewest_129 : decode cX11_fewest 129 = .ok (.iand, 1) := by decide +kernel
theorem dX11_fewest_130 : decode cX11_fewest 130 = .ok (.invokevirtual 82, 3) := by decide +kernel
theorem dX11_fewest_133 : decode cX11_fewest 133 = .ok (.aload_n 0, 1) := by decide +kernel
theorem dX11_fewest_134 : decode cX11_fewest 134 = .ok (.iload_n 3, 1) := by decide +kernel
theorem dX11_fewest_135 : decode cX11_fewest 135 = .ok (.invokevirtual 130, 3) := by decide +kernel
theorem dX11_fewest_138 : decode cX11_fewest 138 = .ok (.aload_n 0, 1) := by decide +kernel
theorem dX11_fewest_139 : decode cX11_fewest 139 = .ok (.iload_n 1, 1) := by decide +kernel
theorem dX11_fewest_140 : decode cX11_fewest 140 = .ok (.iload_n 2, 1) := by decide +kernel
theorem dX11_fewest_141 : decode cX11_fewest 141 = .ok (.invokevirtual 112, 3) := by decide +kernel
theorem dX11_fewest_144 : decode cX11_fewest 144 = .ok (.ifCond .eq 8, 3) := by decide +kernel
theorem dX11_fewest_147 : decode cX11_fewest 147 = .ok (.iload 6, 2) := by decide +kernel
theorem dX11_fewest_149 : decode cX11_fewest 149 = .ok (.goto 5, 3) := by decide +kernel
theorem dX11_fewest_152 : decode cX11_fewest 152 = .ok (.iload 5, 2) := by decide +kernel
theorem dX11_fewest_154 : decode cX11_fewest 154 = .ok (.istore 5, 2) := by decide +kernel
theorem dX11_fewest_156 : decode cX11_fewest 156 = .ok (.aload_n 0, 1) := by decide +kernel
theorem dX11_fewest_157 : decode cX11_fewest 157 = .ok (.iconst 0, 1) := by decide +kernel
theorem dX11_fewest_158 : decode cX11_fewest 158 = .ok (.aload_n 0, 1) := by decide +kernel
theorem dX11_fewest_159 : decode cX11_fewest 159 = .ok (.getfield 16, 3) := by decide +kernel
theorem dX11_fewest_162 : decode cX11_fewest 162 = .ok (.invokevirtual 146, 3) := by decide +kernel
theorem dX11_fewest_165 : decode cX11_fewest 165 = .ok (.iload 6, 2) := by decide +kernel
theorem dX11_fewest_167 : decode cX11_fewest 167 = .ok (.ifCond .ne 7, 3) := by decide +kernel
theorem dX11_fewest_170 : decode cX11_fewest 170 = .ok (.iconst (-1), 1) := by decide +kernel
theorem dX11_fewest_171 : decode cX11_fewest 171 = .ok (.goto 10, 3) := by decide +kernel
theorem dX11_fewest_174 : decode cX11_fewest 174 = .ok (.iload 6, 2) := by decide +kernel
theorem dX11_fewest_176 : decode cX11_fewest 176 = .ok (.iconst 1, 1) := by decide +kernel
theorem dX11_fewest_177 : decode cX11_fewest 177 = .ok (.isub, 1) := by decide +kernel
theorem dX11_fewest_178 : decode cX11_fewest 178 = .ok (.iload 4, 2) := by decide +kernel
theorem dX11_fewest_180 : decode cX11_fewest 180 = .ok (.iand, 1) := by decide +kernel
theorem dX11_fewest_181 : decode cX11_fewest 181 = .ok (.istore 6, 2) := by decide +kernel
theorem dX11_fewest_183 : decode cX11_fewest 183 = .ok (.goto (-90), 3) := by decide +kernel
theorem dX11_fewest_186 : decode cX11_fewest 186 = .ok (.iload 5, 2) := by decide +kernel
theorem dX11_fewest_188 : decode cX11_fewest 188 = .ok (.ifCond .ge 12, 3) := by decide +kernel
theorem dX11_fewest_191 : decode cX11_fewest 191 = .ok (.aload_n 0, 1) := by decide +kernel
theorem dX11_fewest_192 : decode cX11_fewest 192 = .ok (.ldc 150, 2) := by decide +kernel
theorem dX11_fewest_194 : decode cX11_fewest 194 = .ok (.invokevirtual 57, 3) := by decide +kernel
theorem dX11_fewest_197 : decode cX11_fewest 197 = .ok (.goto 5, 3) := by decide +kernel
theorem dX11_fewest_200 : decode cX11_fewest 200 = .ok (.iload 5, 2) := by decide +kernel
theorem dX11_fewest_202 : decode cX11_fewest 202 = .ok (.ireturn, 1) := by decide +kernel
theorem dX11_feed_0 : decode cX11_feed 0 = .ok (.iload_n 2, 1) := by decide +kernel
theorem dX11_feed_1 : decode cX11_feed 1 = .ok (.iconst 1, 1) := by decide +kernel
theorem dX11_feed_2 : decode cX11_feed 2 = .ok (.iconst 4, 1) := by decide +kernel
theorem dX11_feed_3 : decode cX11_feed 3 = .ok (.invokestatic 45, 3) := by decide +kernel
theorem dX11_feed_6 : decode cX11_feed 6 = .ok (.ifCond .ne 10, 3) := by decide +kernel
theorem dX11_feed_9 : decode cX11_feed 9 = .ok (.aload_n 0, 1) := by decide +kernel
theorem dX11_feed_10 : decode cX11_feed 10 = .ok (.ldc 44, 2) := by decide +kernel
theorem dX11_feed_12 : decode cX11_feed 12 = .ok (.invokevirtual 57, 3) := by decide +kernel
theorem dX11_feed_15 : decode cX11_feed 15 = .ok (.ireturn, 1) := by decide +kernel
theorem dX11_feed_16 : decode cX11_feed 16 = .ok (.aload_n 0, 1) := by decide +kernel
theorem dX11_feed_17 : decode cX11_feed 17 = .ok (.getfield 159, 3) := by decide +kernel
theorem dX11_feed_20 : decode cX11_feed 20 = .ok (.iload_n 2, 1) := by decide +kernel
theorem dX11_feed_21 : decode cX11_feed 21 = .ok (.iadd, 1) := by decide +kernel
theorem dX11_feed_22 : decode cX11_feed 22 = .ok (.bipush 120, 2) := by decide +kernel
theorem dX11_feed_24 : decode cX11_feed 24 = .ok (.if_icmp .le 10, 3) := by decide +kernel
theorem dX11_feed_27 : decode cX11_feed 27 = .ok (.aload_n 0, 1) := by decide +kernel
theorem dX11_feed_28 : decode cX11_feed 28 = .ok (.ldc 89, 2) := by decide +kernel
theorem dX11_feed_30 : decode cX11_feed 30 = .ok (.invokevirtual 57, 3) := by decide +kernel
theorem dX11_feed_33 : decode cX11_feed 33 = .ok (.ireturn, 1) := by decide +kernel
theorem dX11_feed_34 : decode cX11_feed 34 = .ok (.iload_n 2, 1) := by decide +kernel
theorem dX11_feed_35 : decode cX11_feed 35 = .ok (.iconst 1, 1) := by decide +kernel
theorem dX11_feed_36 : decode cX11_feed 36 = .ok (.isub, 1) := by decide +kernel
theorem dX11_feed_37 : decode cX11_feed 37 = .ok (.istore_n 3, 1) := by decide +kernel
theorem dX11_feed_38 : decode cX11_feed 38 = .ok (.iload_n 3, 1) := by decide +kernel
theorem dX11_feed_39 : decode cX11_feed 39 = .ok (.ifCond .lt 38, 3) := by decide +kernel
theorem dX11_feed_42 : decode cX11_feed 42 = .ok (.aload_n 0, 1) := by decide +kernel
theorem dX11_feed_43 : decode cX11_feed 43 = .ok (.getfield 22, 3) := by decide +kernel
theorem dX11_feed_46 : decode cX11_feed 46 = .ok (.aload_n 0, 1) := by decide +kernel
theorem dX11_feed_47 : decode cX11_feed 47 = .ok (.getfield 159, 3) := by decide +kernel
theorem dX11_feed_50 : decode cX11_feed 50 = .ok (.iload_n 1, 1) := by decide +kernel
theorem dX11_feed_51 : decode cX11_feed 51 = .ok (.bipush 8, 2) := by decide +kernel
theorem dX11_feed_53 : decode cX11_feed 53 = .ok (.iload_n 3, 1) := by decide +kernel
theorem dX11_feed_54 : decode cX11_feed 54 = .ok (.imul, 1) := by decide +kernel
theorem dX11_feed_55 : decode cX11_feed 55 = .ok (.ishr, 1) := by decide +kernel
theorem dX11_feed_56 : decode cX11_feed 56 = .ok (.sipush 255, 3) := by decide +kernel
theorem dX11_feed_59 : decode cX11_feed 59 = .ok (.iand, 1) := by decide +kernel
theorem dX11_feed_60 : decode cX11_feed 60 = .ok (.iastore, 1) := by decide +kernel
theorem dX11_feed_61 : decode cX11_feed 61 = .ok (.aload_n 0, 1) := by decide +kernel
theorem dX11_feed_62 : decode cX11_feed 62 = .ok (.dup, 1) := by decide +kernel
theorem dX11_feed_63 : decode cX11_feed 63 = .ok (.getfield 159, 3) := by decide +kernel
theorem dX11_feed_66 : decode cX11_feed 66 = .ok (.iconst 1, 1) := by decide +kernel
theorem dX11_feed_67 : decode cX11_feed 67 = .ok (.iadd, 1) := by decide +kernel
theorem dX11_feed_68 : decode cX11_feed 68 = .ok (.putfield 159, 3) := by decide +kernel
theorem dX11_feed_71 : decode cX11_feed 71 = .ok (.iinc 3 (-1), 3) := by decide +kernel
theorem dX11_feed_74 : decode cX11_feed 74 = .ok (.goto (-36), 3) := by decide +kernel
theorem dX11_feed_77 : decode cX11_feed 77 = .ok (.aload_n 0, 1) := by decide +kernel
theorem dX11_feed_78 : decode cX11_feed 78 = .ok (.getfield 159, 3) := by decide +kernel
theorem dX11_feed_81 : decode cX11_feed 81 = .ok (.ireturn, 1) := by decide +kernel
theorem dX11_wipe_0 : decode cX11_wipe 0 = .ok (.aload_n 0, 1) := by decide +kernel
theorem dX11_wipe_1 : decode cX11_wipe 1 = .ok (.getfield 159, 3) := by decide +kernel
theorem dX11_wipe_4 : decode cX11_wipe 4 = .ok (.istore_n 1, 1) := by decide +kernel
theorem dX11_wipe_5 : decode cX11_wipe 5 = .ok (.aload_n 0, 1) := by decide +kernel
theorem dX11_wipe_6 : decode cX11_wipe 6 = .ok (.iconst 0, 1) := by decide +kernel
theorem dX11_wipe_7 : decode cX11_wipe 7 = .ok (.putfield 159, 3) := by decide +kernel
theorem dX11_wipe_10 : decode cX11_wipe 10 = .ok (.iload_n 1, 1) := by decide +kernel
theorem dX11_wipe_11 : decode cX11_wipe 11 = .ok (.ireturn, 1) := by decide +kernel
theorem dX11_byteAt_0 : decode cX11_byteAt 0 = .ok (.iload_n 1, 1) := by decide +kernel
theorem dX11_byteAt_1 : decode cX11_byteAt 1 = .ok (.aload_n 0, 1) := by decide +kernel
theorem dX11_byteAt_2 : decode cX11_byteAt 2 = .ok (.getfield 159, 3) := by decide +kernel
theorem dX11_byteAt_5 : decode cX11_byteAt 5 = .ok (.if_icmp .ge 12, 3) := by decide +kernel
theorem dX11_byteAt_8 : decode cX11_byteAt 8 = .ok (.aload_n 0, 1) := by decide +kernel
theorem dX11_byteAt_9 : decode cX11_byteAt 9 = .ok (.getfield 22, 3) := by decide +kernel
theorem dX11_byteAt_12 : decode cX11_byteAt 12 = .ok (.iload_n 1, 1) := by decide +kernel
theorem dX11_byteAt_13 : decode cX11_byteAt 13 = .ok (.iaload, 1) := by decide +kernel
theorem dX11_byteAt_14 : decode cX11_byteAt 14 = .ok (.goto 4, 3) := by decide +kernel
theorem dX11_byteAt_17 : decode cX11_byteAt 17 = .ok (.iconst (-1), 1) := by decide +kernel
theorem dX11_byteAt_18 : decode cX11_byteAt 18 = .ok (.ireturn, 1) := by decide +kernel
theorem dX11_isLetter_0 : decode cX11_isLetter 0 = .ok (.iload_n 0, 1) := by decide +kernel
theorem dX11_isLetter_1 : decode cX11_isLetter 1 = .ok (.bipush 97, 2) := by decide +kernel
theorem dX11_isLetter_3 : decode cX11_isLetter 3 = .ok (.bipush 122, 2) := by decide +kernel
theorem dX11_isLetter_5 : decode cX11_isLetter 5 = .ok (.invokestatic 45, 3) := by decide +kernel
theorem dX11_isLetter_8 : decode cX11_isLetter 8 = .ok (.ireturn, 1) := by decide +kernel
theorem dX11_isDigit_0 : decode cX11_isDigit 0 = .ok (.iload_n 0, 1) := by decide +kernel
theorem dX11_isDigit_1 : decode cX11_isDigit 1 = .ok (.bipush 48, 2) := by decide +kernel
theorem dX11_isDigit_3 : decode cX11_isDigit 3 = .ok (.bipush 57, 2) := by decide +kernel
theorem dX11_isDigit_5 : decode cX11_isDigit 5 = .ok (.invokestatic 45, 3) := by decide +kernel
theorem dX11_isDigit_8 : decode cX11_isDigit 8 = .ok (.ireturn, 1) := by decide +kernel
theorem dX11_advance_0 : decode cX11_advance 0 = .ok (.aload_n 0, 1) := by decide +kernel
theorem dX11_advance_1 : decode cX11_advance 1 = .ok (.aload_n 0, 1) := by decide +kernel
theorem dX11_advance_2 : decode cX11_advance 2 = .ok (.getfield 163, 3) := by decide +kernel
theorem dX11_advance_5 : decode cX11_advance 5 = .ok (.putfield 166, 3) := by decide +kernel
theorem dX11_advance_8 : decode cX11_advance 8 = .ok (.aload_n 0, 1) := by decide +kernel
theorem dX11_advance_9 : decode cX11_advance 9 = .ok (.aload_n 0, 1) := by decide +kernel
theorem dX11_advance_10 : decode cX11_advance 10 = .ok (.getfield 166, 3) := by decide +kernel
theorem dX11_advance_13 : decode cX11_advance 13 = .ok (.invokevirtual 169, 3) := by decide +kernel
theorem dX11_advance_16 : decode cX11_advance 16 = .ok (.bipush 32, 2) := by decide +kernel
theorem dX11_advance_18 : decode cX11_advance 18 = .ok (.if_icmp .ne 16, 3) := by decide +kernel
theorem dX11_advance_21 : decode cX11_advance 21 = .ok (.aload_n 0, 1) := by decide +kernel
theorem dX11_advance_22 : decode cX11_advance 22 = .ok (.dup, 1) := by decide +kernel
theorem dX11_advance_23 : decode cX11_advance 23 = .ok (.getfield 166, 3) := by decide +kernel
theorem dX11_advance_26 : decode cX11_advance 26 = .ok (.iconst 1, 1) := by decide +kernel
theorem dX11_advance_27 : decode cX11_advance 27 = .ok (.iadd, 1) := by decide +kernel
theorem dX11_advance_28 : decode cX11_advance 28 = .ok (.putfield 166, 3) := by decide +kernel
theorem dX11_advance_31 : decode cX11_advance 31 = .ok (.goto (-23), 3) := by decide +kernel
theorem dX11_advance_34 : decode cX11_advance 34 = .ok (.aload_n 0, 1) := by decide +kernel
theorem dX11_advance_35 : decode cX11_advance 35 = .ok (.aload_n 0, 1) := by decide +kernel
theorem dX11_advance_36 : decode cX11_advance 36 = .ok (.getfield 166, 3) := by decide +kernel
theorem dX11_advance_39 : decode cX11_advance 39 = .ok (.putfield 163, 3) := by decide +kernel
theorem dX11_advance_42 : decode cX11_advance 42 = .ok (.aload_n 0, 1) := by decide +kernel
theorem dX11_advance_43 : decode cX11_advance 43 = .ok (.aload_n 0, 1) := by decide +kernel
theorem dX11_advance_44 : decode cX11_advance 44 = .ok (.getfield 166, 3) := by decide +kernel
theorem dX11_advance_47 : decode cX11_advance 47 = .ok (.invokevirtual 169, 3) := by decide +kernel
theorem dX11_advance_50 : decode cX11_advance 50 = .ok (.istore_n 1, 1) := by decide +kernel
theorem dX11_advance_51 : decode cX11_advance 51 = .ok (.aload_n 0, 1) := by decide +kernel
theorem dX11_advance_52 : decode cX11_advance 52 = .ok (.iload_n 1, 1) := by decide +kernel
theorem dX11_advance_53 : decode cX11_advance 53 = .ok (.ifCond .ge 7, 3) := by decide +kernel
theorem dX11_advance_56 : decode cX11_advance 56 = .ok (.iconst 0, 1) := by decide +kernel
theorem dX11_advance_57 : decode cX11_advance 57 = .ok (.goto 26, 3) := by decide +kernel
theorem dX11_advance_60 : decode cX11_advance 60 = .ok (.iload_n 1, 1) := by decide +kernel
theorem dX11_advance_61 : decode cX11_advance 61 = .ok (.invokestatic 172, 3) := by decide +kernel
theorem dX11_advance_64 : decode cX11_advance 64 = .ok (.ifCond .eq 7, 3) := by decide +kernel
theorem dX11_advance_67 : decode cX11_advance 67 = .ok (.iconst 1, 1) := by decide +kernel
theorem dX11_advance_68 : decode cX11_advance 68 = .ok (.goto 15, 3) := by decide +kernel
theorem dX11_advance_71 : decode cX11_advance 71 = .ok (.iload_n 1, 1) := by decide +kernel
theorem dX11_advance_72 : decode cX11_advance 72 = .ok (.invokestatic 175, 3) := by decide +kernel
theorem dX11_advance_75 : decode cX11_advance 75 = .ok (.ifCond .eq 7, 3) := by decide +kernel
theorem dX11_advance_78 : decode cX11_advance 78 = .ok (.iconst 2, 1) := by decide +kernel
theorem dX11_advance_79 : decode cX11_advance 79 = .ok (.goto 4, 3) := by decide +kernel
theorem dX11_advance_82 : decode cX11_advance 82 = .ok (.iconst 3, 1) := by decide +kernel
theorem dX11_advance_83 : decode cX11_advance 83 = .ok (.putfield 178, 3) := by decide +kernel
theorem dX11_advance_86 : decode cX11_advance 86 = .ok (.aload_n 0, 1) := by decide +kernel
theorem dX11_advance_87 : decode cX11_advance 87 = .ok (.lconst 0, 1) := by decide +kernel
theorem dX11_advance_88 : decode cX11_advance 88 = .ok (.putfield 181, 3) := by decide +kernel
theorem dX11_advance_91 : decode cX11_advance 91 = .ok (.aload_n 0, 1) := by decide +kernel
theorem dX11_advance_92 : decode cX11_advance 92 = .ok (.aload_n 0, 1) := by decide +kernel
theorem dX11_advance_93 : decode cX11_advance 93 = .ok (.getfield 178, 3) := by decide +kernel
theorem dX11_advance_96 : decode cX11_advance 96 = .ok (.iconst 2, 1) := by decide +kernel
theorem dX11_advance_97 : decode cX11_advance 97 = .ok (.if_icmp .ne 7, 3) := by decide +kernel
theorem dX11_advance_100 : decode cX11_advance 100 = .ok (.iconst 0, 1) := by decide +kernel
theorem dX11_advance_101 : decode cX11_advance 101 = .ok (.goto 4, 3) := by decide +kernel
theorem dX11_advance_104 : decode cX11_advance 104 = .ok (.iload_n 1, 1) := by decide +kernel
theorem dX11_advance_105 : decode cX11_advance 105 = .ok (.putfield 185, 3) := by decide +kernel
theorem dX11_advance_108 : decode cX11_advance 108 = .ok (.aload_n 0, 1) := by decide +kernel
theorem dX11_advance_109 : decode cX11_advance 109 = .ok (.getfield 178, 3) := by decide +kernel
theorem dX11_advance_112 : decode cX11_advance 112 = .ok (.iconst 3, 1) := by decide +kernel
theorem dX11_advance_113 : decode cX11_advance 113 = .ok (.if_icmp .ne 13, 3) := by decide +kernel
theorem dX11_advance_116 : decode cX11_advance 116 = .ok (.aload_n 0, 1) := by decide +kernel
theorem dX11_advance_117 : decode cX11_advance 117 = .ok (.dup, 1) := by decide +kernel
theorem dX11_advance_118 : decode cX11_advance 118 = .ok (.getfield 163, 3) := by decide +kernel
theorem dX11_advance_121 : decode cX11_advance 121 = .ok (.iconst 1, 1) := by decide +kernel
theorem dX11_advance_122 : decode cX11_advance 122 = .ok (.iadd, 1) := by decide +kernel
theorem dX11_advance_123 : decode cX11_advance 123 = .ok (.putfield 163, 3) := by decide +kernel
theorem dX11_advance_126 : decode cX11_advance 126 = .ok (.aload_n 0, 1) := by decide +kernel
theorem dX11_advance_127 : decode cX11_advance 127 = .ok (.getfield 178, 3) := by decide +kernel
theorem dX11_advance_130 : decode cX11_advance 130 = .ok (.iconst 1, 1) := by decide +kernel
theorem dX11_advance_131 : decode cX11_advance 131 = .ok (.if_icmp .ne 76, 3) := by decide +kernel
theorem dX11_advance_134 : decode cX11_advance 134 = .ok (.aload_n 0, 1) := by decide +kernel
theorem dX11_advance_135 : decode cX11_advance 135 = .ok (.aload_n 0, 1) := by decide +kernel
theorem dX11_advance_136 : decode cX11_advance 136 = .ok (.getfield 163, 3) := by decide +kernel
theorem dX11_advance_139 : decode cX11_advance 139 = .ok (.invokevirtual 169, 3) := by decide +kernel
theorem dX11_advance_142 : decode cX11_advance 142 = .ok (.invokestatic 172, 3) := by decide +kernel
theorem dX11_advance_145 : decode cX11_advance 145 = .ok (.ifCond .eq 62, 3) := by decide +kernel
theorem dX11_advance_148 : decode cX11_advance 148 = .ok (.aload_n 0, 1) := by decide +kernel
theorem dX11_advance_149 : decode cX11_advance 149 = .ok (.aload_n 0, 1) := by decide +kernel
theorem dX11_advance_150 : decode cX11_advance 150 = .ok (.getfield 163, 3) := by decide +kernel
theorem dX11_advance_153 : decode cX11_advance 153 = .ok (.aload_n 0, 1) := by decide +kernel
theorem dX11_advance_154 : decode cX11_advance 154 = .ok (.getfield 166, 3) := by decide +kernel
theorem dX11_advance_157 : decode cX11_advance 157 = .ok (.isub, 1) := by decide +kernel
theorem dX11_advance_158 : decode cX11_advance 158 = .ok (.bipush 12, 2) := by decide +kernel
theorem dX11_advance_160 : decode cX11_advance 160 = .ok (.if_icmp .ge 28, 3) := by decide +kernel
theorem dX11_advance_163 : decode cX11_advance 163 = .ok (.ldc2_w 188, 3) := by decide +kernel
theorem dX11_advance_166 : decode cX11_advance 166 = .ok (.aload_n 0, 1) := by decide +kernel
theorem dX11_advance_167 : decode cX11_advance 167 = .ok (.getfield 181, 3) := by decide +kernel
theorem dX11_advance_170 : decode cX11_advance 170 = .ok (.lmul, 1) := by decide +kernel
theorem dX11_advance_171 : decode cX11_advance 171 = .ok (.aload_n 0, 1) := by decide +kernel
theorem dX11_advance_172 : decode cX11_advance 172 = .ok (.aload_n 0, 1) := by decide +kernel
theorem dX11_advance_173 : decode cX11_advance 173 = .ok (.getfield 163, 3) := by decide +kernel
theorem dX11_advance_176 : decode cX11_advance 176 = .ok (.invokevirtual 169, 3) := by decide +kernel
theorem dX11_advance_179 : decode cX11_advance 179 = .ok (.i2l, 1) := by decide +kernel
theorem dX11_advance_180 : decode cX11_advance 180 = .ok (.ladd, 1) := by decide +kernel
theorem dX11_advance_181 : decode cX11_advance 181 = .ok (.ldc2_w 190, 3) := by decide +kernel
theorem dX11_advance_184 : decode cX11_advance 184 = .ok (.lsub, 1) := by decide +kernel
theorem dX11_advance_185 : decode cX11_advance 185 = .ok (.goto 6, 3) := by decide +kernel
theorem dX11_advance_188 : decode cX11_advance 188 = .ok (.ldc2_w 192, 3) := by decide +kernel
theorem dX11_advance_191 : decode cX11_advance 191 = .ok (.putfield 181, 3) := by decide +kernel
theorem dX11_advance_194 : decode cX11_advance 194 = .ok (.aload_n 0, 1) := by decide +kernel
theorem dX11_advance_195 : decode cX11_advance 195 = .ok (.dup, 1) := by decide +kernel
theorem dX11_advance_196 : decode cX11_advance 196 = .ok (.getfield 163, 3) := by decide +kernel
theorem dX11_advance_199 : decode cX11_advance 199 = .ok (.iconst 1, 1) := by decide +kernel
theorem dX11_advance_200 : decode cX11_advance 200 = .ok (.iadd, 1) := by decide +kernel
theorem dX11_advance_201 : decode cX11_advance 201 = .ok (.putfield 163, 3) := by decide +kernel
theorem dX11_advance_204 : decode cX11_advance 204 = .ok (.goto (-78), 3) := by decide +kernel
theorem dX11_advance_207 : decode cX11_advance 207 = .ok (.aload_n 0, 1) := by decide +kernel
theorem dX11_advance_208 : decode cX11_advance 208 = .ok (.getfield 178, 3) := by decide +kernel
theorem dX11_advance_211 : decode cX11_advance 211 = .ok (.iconst 2, 1) := by decide +kernel
theorem dX11_advance_212 : decode cX11_advance 212 = .ok (.if_icmp .ne 69, 3) := by decide +kernel
theorem dX11_advance_215 : decode cX11_advance 215 = .ok (.aload_n 0, 1) := by decide +kernel
theorem dX11_advance_216 : decode cX11_advance 216 = .ok (.aload_n 0, 1) := by decide +kernel
theorem dX11_advance_217 : decode cX11_advance 217 = .ok (.getfield 163, 3) := by decide +kernel
theorem dX11_advance_220 : decode cX11_advance 220 = .ok (.invokevirtual 169, 3) := by decide +kernel
theorem dX11_advance_223 : decode cX11_advance 223 = .ok (.invokestatic 175, 3) := by decide +kernel
theorem dX11_advance_226 : decode cX11_advance 226 = .ok (.ifCond .eq 55, 3) := by decide +kernel
theorem dX11_advance_229 : decode cX11_advance 229 = .ok (.aload_n 0, 1) := by decide +kernel
theorem dX11_advance_230 : decode cX11_advance 230 = .ok (.aload_n 0, 1) := by decide +kernel
theorem dX11_advance_231 : decode cX11_advance 231 = .ok (.getfield 185, 3) := by decide +kernel
theorem dX11_advance_234 : decode cX11_advance 234 = .ok (.sipush 999, 3) := by decide +kernel
theorem dX11_advance_237 : decode cX11_advance 237 = .ok (.if_icmp .le 9, 3) := by decide +kernel
theorem dX11_advance_240 : decode cX11_advance 240 = .ok (.sipush 10000, 3) := by decide +kernel
theorem dX11_advance_243 : decode cX11_advance 243 = .ok (.goto 22, 3) := by decide +kernel
theorem dX11_advance_246 : decode cX11_advance 246 = .ok (.bipush 10, 2) := by decide +kernel
theorem dX11_advance_248 : decode cX11_advance 248 = .ok (.aload_n 0, 1) := by decide +kernel
theorem dX11_advance_249 : decode cX11_advance 249 = .ok (.getfield 185, 3) := by decide +kernel
theorem dX11_advance_252 : decode cX11_advance 252 = .ok (.imul, 1) := by decide +kernel
theorem dX11_advance_253 : decode cX11_advance 253 = .ok (.aload_n 0, 1) := by decide +kernel
theorem dX11_advance_254 : decode cX11_advance 254 = .ok (.aload_n 0, 1) := by decide +kernel
theorem dX11_advance_255 : decode cX11_advance 255 = .ok (.getfield 163, 3) := by decide +kernel
theorem dX11_advance_258 : decode cX11_advance 258 = .ok (.invokevirtual 169, 3) := by decide +kernel
theorem dX11_advance_261 : decode cX11_advance 261 = .ok (.iadd, 1) := by decide +kernel
theorem dX11_advance_262 : decode cX11_advance 262 = .ok (.bipush 48, 2) := by decide +kernel
theorem dX11_advance_264 : decode cX11_advance 264 = .ok (.isub, 1) := by decide +kernel
theorem dX11_advance_265 : decode cX11_advance 265 = .ok (.putfield 185, 3) := by decide +kernel
theorem dX11_advance_268 : decode cX11_advance 268 = .ok (.aload_n 0, 1) := by decide +kernel
theorem dX11_advance_269 : decode cX11_advance 269 = .ok (.dup, 1) := by decide +kernel
theorem dX11_advance_270 : decode cX11_advance 270 = .ok (.getfield 163, 3) := by decide +kernel
theorem dX11_advance_273 : decode cX11_advance 273 = .ok (.iconst 1, 1) := by decide +kernel
theorem dX11_advance_274 : decode cX11_advance 274 = .ok (.iadd, 1) := by decide +kernel
theorem dX11_advance_275 : decode cX11_advance 275 = .ok (.putfield 163, 3) := by decide +kernel
theorem dX11_advance_278 : decode cX11_advance 278 = .ok (.goto (-71), 3) := by decide +kernel
theorem dX11_advance_281 : decode cX11_advance 281 = .ok (.return_, 1) := by decide +kernel
theorem dX11_isWord_0 : decode cX11_isWord 0 = .ok (.aload_n 0, 1) := by decide +kernel
theorem dX11_isWord_1 : decode cX11_isWord 1 = .ok (.getfield 178, 3) := by decide +kernel
theorem dX11_isWord_4 : decode cX11_isWord 4 = .ok (.iconst 1, 1) := by decide +kernel
theorem dX11_isWord_5 : decode cX11_isWord 5 = .ok (.if_icmp .ne 16, 3) := by decide +kernel
theorem dX11_isWord_8 : decode cX11_isWord 8 = .ok (.aload_n 0, 1) := by decide +kernel
theorem dX11_isWord_9 : decode cX11_isWord 9 = .ok (.getfield 181, 3) := by decide +kernel
theorem dX11_isWord_12 : decode cX11_isWord 12 = .ok (.lload_n 1, 1) := by decide +kernel
theorem dX11_isWord_13 : decode cX11_isWord 13 = .ok (.lcmp, 1) := by decide +kernel
theorem dX11_isWord_14 : decode cX11_isWord 14 = .ok (.ifCond .ne 7, 3) := by decide +kernel
theorem dX11_isWord_17 : decode cX11_isWord 17 = .ok (.iconst 1, 1) := by decide +kernel
theorem dX11_isWord_18 : decode cX11_isWord 18 = .ok (.goto 4, 3) := by decide +kernel
theorem dX11_isWord_21 : decode cX11_isWord 21 = .ok (.iconst 0, 1) := by decide +kernel
theorem dX11_isWord_22 : decode cX11_isWord 22 = .ok (.ireturn, 1) := by decide +kernel
theorem dX11_kindHere_0 : decode cX11_kindHere 0 = .ok (.aload_n 0, 1) := by decide +kernel
theorem dX11_kindHere_1 : decode cX11_kindHere 1 = .ok (.ldc2_w 194, 3) := by decide +kernel
theorem dX11_kindHere_4 : decode cX11_kindHere 4 = .ok (.invokevirtual 196, 3) := by decide +kernel
theorem dX11_kindHere_7 : decode cX11_kindHere 7 = .ok (.ifCond .eq 7, 3) := by decide +kernel
theorem dX11_kindHere_10 : decode cX11_kindHere 10 = .ok (.iconst 0, 1) := by decide +kernel
theorem dX11_kindHere_11 : decode cX11_kindHere 11 = .ok (.goto 74, 3) := by decide +kernel
theorem dX11_kindHere_14 : decode cX11_kindHere 14 = .ok (.aload_n 0, 1) := by decide +kernel
theorem dX11_kindHere_15 : decode cX11_kindHere 15 = .ok (.ldc2_w 200, 3) := by decide +kernel
theorem dX11_kindHere_18 : decode cX11_kindHere 18 = .ok (.invokevirtual 196, 3) := by decide +kernel
theorem dX11_kindHere_21 : decode cX11_kindHere 21 = .ok (.ifCond .eq 7, 3) := by decide +kernel
theorem dX11_kindHere_24 : decode cX11_kindHere 24 = .ok (.iconst 1, 1) := by decide +kernel
theorem dX11_kindHere_25 : decode cX11_kindHere 25 = .ok (.goto 60, 3) := by decide +kernel
theorem dX11_kindHere_28 : decode cX11_kindHere 28 = .ok (.aload_n 0, 1) := by decide +kernel
theorem dX11_kindHere_29 : decode cX11_kindHere 29 = .ok (.ldc2_w 202, 3) := by decide +kernel
theorem dX11_kindHere_32 : decode cX11_kindHere 32 = .ok (.invokevirtual 196, 3) := by decide +kernel
theorem dX11_kindHere_35 : decode cX11_kindHere 35 = .ok (.ifCond .eq 7, 3) := by decide +kernel
theorem dX11_kindHere_38 : decode cX11_kindHere 38 = .ok (.iconst 2, 1) := by decide +kernel
theorem dX11_kindHere_39 : decode cX11_kindHere 39 = .ok (.goto 46, 3) := by decide +kernel
theorem dX11_kindHere_42 : decode cX11_kindHere 42 = .ok (.aload_n 0, 1) := by decide +kernel
theorem dX11_kindHere_43 : decode cX11_kindHere 43 = .ok (.ldc2_w 204, 3) := by decide +kernel
theorem dX11_kindHere_46 : decode cX11_kindHere 46 = .ok (.invokevirtual 196, 3) := by decide +kernel
theorem dX11_kindHere_49 : decode cX11_kindHere 49 = .ok (.ifCond .eq 7, 3) := by decide +kernel
theorem dX11_kindHere_52 : decode cX11_kindHere 52 = .ok (.iconst 3, 1) := by decide +kernel
theorem dX11_kindHere_53 : decode cX11_kindHere 53 = .ok (.goto 32, 3) := by decide +kernel
theorem dX11_kindHere_56 : decode cX11_kindHere 56 = .ok (.aload_n 0, 1) := by decide +kernel
theorem dX11_kindHere_57 : decode cX11_kindHere 57 = .ok (.ldc2_w 206, 3) := by decide +kernel
theorem dX11_kindHere_60 : decode cX11_kindHere 60 = .ok (.invokevirtual 196, 3) := by decide +kernel
theorem dX11_kindHere_63 : decode cX11_kindHere 63 = .ok (.ifCond .eq 7, 3) := by decide +kernel
theorem dX11_kindHere_66 : decode cX11_kindHere 66 = .ok (.iconst 4, 1) := by decide +kernel
theorem dX11_kindHere_67 : decode cX11_kindHere 67 = .ok (.goto 18, 3) := by decide +kernel
theorem dX11_kindHere_70 : decode cX11_kindHere 70 = .ok (.aload_n 0, 1) := by decide +kernel
theorem dX11_kindHere_71 : decode cX11_kindHere 71 = .ok (.ldc2_w 208, 3) := by decide +kernel
theorem dX11_kindHere_74 : decode cX11_kindHere 74 = .ok (.invokevirtual 196, 3) := by decide +kernel
theorem dX11_kindHere_77 : decode cX11_kindHere 77 = .ok (.ifCond .eq 7, 3) := by decide +kernel
theorem dX11_kindHere_80 : decode cX11_kindHere 80 = .ok (.iconst 5, 1) := by decide +kernel
theorem dX11_kindHere_81 : decode cX11_kindHere 81 = .ok (.goto 4, 3) := by decide +kernel
theorem dX11_kindHere_84 : decode cX11_kindHere 84 = .ok (.iconst (-1), 1) := by decide +kernel
theorem dX11_kindHere_85 : decode cX11_kindHere 85 = .ok (.ireturn, 1) := by decide +kernel
theorem dX11_wantNumber_0 : decode cX11_wantNumber 0 = .ok (.aload_n 0, 1) := by decide +kernel
theorem dX11_wantNumber_1 : decode cX11_wantNumber 1 = .ok (.getfield 185, 3) := by decide +kernel
theorem dX11_wantNumber_4 : decode cX11_wantNumber 4 = .ok (.istore_n 3, 1) := by decide +kernel
theorem dX11_wantNumber_5 : decode cX11_wantNumber 5 = .ok (.aload_n 0, 1) := by decide +kernel
theorem dX11_wantNumber_6 : decode cX11_wantNumber 6 = .ok (.aload_n 0, 1) := by decide +kernel
theorem dX11_wantNumber_7 : decode cX11_wantNumber 7 = .ok (.getfield 210, 3) := by decide +kernel
theorem dX11_wantNumber_10 : decode cX11_wantNumber 10 = .ok (.ifCond .eq 24, 3) := by decide +kernel
theorem dX11_wantNumber_13 : decode cX11_wantNumber 13 = .ok (.aload_n 0, 1) := by decide +kernel
theorem dX11_wantNumber_14 : decode cX11_wantNumber 14 = .ok (.getfield 178, 3) := by decide +kernel
theorem dX11_wantNumber_17 : decode cX11_wantNumber 17 = .ok (.iconst 2, 1) := by decide +kernel
theorem dX11_wantNumber_18 : decode cX11_wantNumber 18 = .ok (.if_icmp .ne 16, 3) := by decide +kernel
theorem dX11_wantNumber_21 : decode cX11_wantNumber 21 = .ok (.iload_n 3, 1) := by decide +kernel
theorem dX11_wantNumber_22 : decode cX11_wantNumber 22 = .ok (.iload_n 1, 1) := by decide +kernel
theorem dX11_wantNumber_23 : decode cX11_wantNumber 23 = .ok (.iload_n 2, 1) := by decide +kernel
theorem dX11_wantNumber_24 : decode cX11_wantNumber 24 = .ok (.invokestatic 45, 3) := by decide +kernel
theorem dX11_wantNumber_27 : decode cX11_wantNumber 27 = .ok (.ifCond .eq 7, 3) := by decide +kernel
theorem dX11_wantNumber_30 : decode cX11_wantNumber 30 = .ok (.iconst 1, 1) := by decide +kernel
theorem dX11_wantNumber_31 : decode cX11_wantNumber 31 = .ok (.goto 4, 3) := by decide +kernel
theorem dX11_wantNumber_34 : decode cX11_wantNumber 34 = .ok (.iconst 0, 1) := by decide +kernel
theorem dX11_wantNumber_35 : decode cX11_wantNumber 35 = .ok (.putfield 210, 3) := by decide +kernel
theorem dX11_wantNumber_38 : decode cX11_wantNumber 38 = .ok (.aload_n 0, 1) := by decide +kernel
theorem dX11_wantNumber_39 : decode cX11_wantNumber 39 = .ok (.getfield 210, 3) := by decide +kernel
theorem dX11_wantNumber_42 : decode cX11_wantNumber 42 = .ok (.ifCond .eq 7, 3) := by decide +kernel
theorem dX11_wantNumber_45 : decode cX11_wantNumber 45 = .ok (.aload_n 0, 1) := by decide +kernel
theorem dX11_wantNumber_46 : decode cX11_wantNumber 46 = .ok (.invokevirtual 214, 3) := by decide +kernel
theorem dX11_wantNumber_49 : decode cX11_wantNumber 49 = .ok (.iload_n 3, 1) := by decide +kernel
theorem dX11_wantNumber_50 : decode cX11_wantNumber 50 = .ok (.ireturn, 1) := by decide +kernel
theorem dX11_mayWant_0 : decode cX11_mayWant 0 = .ok (.aload_n 0, 1) := by decide +kernel
theorem dX11_mayWant_1 : decode cX11_mayWant 1 = .ok (.getfield 210, 3) := by decide +kernel
theorem dX11_mayWant_4 : decode cX11_mayWant 4 = .ok (.ifCond .eq 11, 3) := by decide +kernel
theorem dX11_mayWant_7 : decode cX11_mayWant 7 = .ok (.aload_n 0, 1) := by decide +kernel
theorem dX11_mayWant_8 : decode cX11_mayWant 8 = .ok (.lload_n 1, 1) := by decide +kernel
theorem dX11_mayWant_9 : decode cX11_mayWant 9 = .ok (.invokevirtual 196, 3) := by decide +kernel
theorem dX11_mayWant_12 : decode cX11_mayWant 12 = .ok (.ifCond .ne 6, 3) := by decide +kernel
theorem dX11_mayWant_15 : decode cX11_mayWant 15 = .ok (.iload 5, 2) := by decide +kernel
theorem dX11_mayWant_17 : decode cX11_mayWant 17 = .ok (.ireturn, 1) := by decide +kernel
theorem dX11_mayWant_18 : decode cX11_mayWant 18 = .ok (.aload_n 0, 1) := by decide +kernel
theorem dX11_mayWant_19 : decode cX11_mayWant 19 = .ok (.invokevirtual 214, 3) := by decide +kernel
theorem dX11_mayWant_22 : decode cX11_mayWant 22 = .ok (.aload_n 0, 1) := by decide +kernel
theorem dX11_mayWant_23 : decode cX11_mayWant 23 = .ok (.iload_n 3, 1) := by decide +kernel
theorem dX11_mayWant_24 : decode cX11_mayWant 24 = .ok (.iload 4, 2) := by decide +kernel
theorem dX11_mayWant_26 : decode cX11_mayWant 26 = .ok (.invokevirtual 217, 3) := by decide +kernel
theorem dX11_mayWant_29 : decode cX11_mayWant 29 = .ok (.ireturn, 1) := by decide +kernel
theorem dX11_mayHave_0 : decode cX11_mayHave 0 = .ok (.aload_n 0, 1) := by decide +kernel
theorem dX11_mayHave_1 : decode cX11_mayHave 1 = .ok (.getfield 210, 3) := by decide +kernel
theorem dX11_mayHave_4 : decode cX11_mayHave 4 = .ok (.ifCond .eq 13, 3) := by decide +kernel
theorem dX11_mayHave_7 : decode cX11_mayHave 7 = .ok (.aload_n 0, 1) := by decide +kernel
theorem dX11_mayHave_8 : decode cX11_mayHave 8 = .ok (.ldc2_w 220, 3) := by decide +kernel
theorem dX11_mayHave_11 : decode cX11_mayHave 11 = .ok (.invokevirtual 196, 3) := by decide +kernel
theorem dX11_mayHave_14 : decode cX11_mayHave 14 = .ok (.ifCond .ne 5, 3) := by decide +kernel
theorem dX11_mayHave_17 : decode cX11_mayHave 17 = .ok (.iconst 0, 1) := by decide +kernel
theorem dX11_mayHave_18 : decode cX11_mayHave 18 = .ok (.ireturn, 1) := by decide +kernel
theorem dX11_mayHave_19 : decode cX11_mayHave 19 = .ok (.aload_n 0, 1) := by decide +kernel
theorem dX11_mayHave_20 : decode cX11_mayHave 20 = .ok (.invokevirtual 214, 3) := by decide +kernel
theorem dX11_mayHave_23 : decode cX11_mayHave 23 = .ok (.iconst 0, 1) := by decide +kernel
theorem dX11_mayHave_24 : decode cX11_mayHave 24 = .ok (.istore_n 1, 1) := by decide +kernel
theorem dX11_mayHave_25 : decode cX11_mayHave 25 = .ok (.iconst 0, 1) := by decide +kernel
theorem dX11_mayHave_26 : decode cX11_mayHave 26 = .ok (.istore_n 2, 1) := by decide +kernel
theorem dX11_mayHave_27 : decode cX11_mayHave 27 = .ok (.iload_n 2, 1) := by decide +kernel
theorem dX11_mayHave_28 : decode cX11_mayHave 28 = .ok (.iconst 4, 1) := by decide +kernel
theorem dX11_mayHave_29 : decode cX11_mayHave 29 = .ok (.if_icmp .ge 53, 3) := by decide +kernel
theorem dX11_mayHave_32 : decode cX11_mayHave 32 = .ok (.aload_n 0, 1) := by decide +kernel
theorem dX11_mayHave_33 : decode cX11_mayHave 33 = .ok (.getfield 210, 3) := by decide +kernel
theorem dX11_mayHave_36 : decode cX11_mayHave 36 = .ok (.ifCond .eq 46, 3) := by decide +kernel
theorem dX11_mayHave_39 : decode cX11_mayHave 39 = .ok (.iload_n 2, 1) := by decide +kernel
theorem dX11_mayHave_40 : decode cX11_mayHave 40 = .ok (.ifCond .eq 11, 3) := by decide +kernel
theorem dX11_mayHave_43 : decode cX11_mayHave 43 = .ok (.aload_n 0, 1) := by decide +kernel
theorem dX11_mayHave_44 : decode cX11_mayHave 44 = .ok (.getfield 178, 3) := by decide +kernel
theorem dX11_mayHave_47 : decode cX11_mayHave 47 = .ok (.iconst 2, 1) := by decide +kernel
theorem dX11_mayHave_48 : decode cX11_mayHave 48 = .ok (.if_icmp .ne 34, 3) := by decide +kernel
theorem dX11_mayHave_51 : decode cX11_mayHave 51 = .ok (.aload_n 0, 1) := by decide +kernel
theorem dX11_mayHave_52 : decode cX11_mayHave 52 = .ok (.iconst 0, 1) := by decide +kernel
theorem dX11_mayHave_53 : decode cX11_mayHave 53 = .ok (.bipush 15, 2) := by decide +kernel
theorem dX11_mayHave_55 : decode cX11_mayHave 55 = .ok (.invokevirtual 217, 3) := by decide +kernel
theorem dX11_mayHave_58 : decode cX11_mayHave 58 = .ok (.istore_n 3, 1) := by decide +kernel
theorem dX11_mayHave_59 : decode cX11_mayHave 59 = .ok (.iload_n 1, 1) := by decide +kernel
theorem dX11_mayHave_60 : decode cX11_mayHave 60 = .ok (.aload_n 0, 1) := by decide +kernel
theorem dX11_mayHave_61 : decode cX11_mayHave 61 = .ok (.getfield 210, 3) := by decide +kernel
theorem dX11_mayHave_64 : decode cX11_mayHave 64 = .ok (.ifCond .eq 9, 3) := by decide +kernel
theorem dX11_mayHave_67 : decode cX11_mayHave 67 = .ok (.iconst 1, 1) := by decide +kernel
theorem dX11_mayHave_68 : decode cX11_mayHave 68 = .ok (.iload_n 3, 1) := by decide +kernel
theorem dX11_mayHave_69 : decode cX11_mayHave 69 = .ok (.ishl, 1) := by decide +kernel
theorem dX11_mayHave_70 : decode cX11_mayHave 70 = .ok (.goto 4, 3) := by decide +kernel
theorem dX11_mayHave_73 : decode cX11_mayHave 73 = .ok (.iconst 0, 1) := by decide +kernel
theorem dX11_mayHave_74 : decode cX11_mayHave 74 = .ok (.ior, 1) := by decide +kernel
theorem dX11_mayHave_75 : decode cX11_mayHave 75 = .ok (.istore_n 1, 1) := by decide +kernel
theorem dX11_mayHave_76 : decode cX11_mayHave 76 = .ok (.iinc 2 1, 3) := by decide +kernel
theorem dX11_mayHave_79 : decode cX11_mayHave 79 = .ok (.goto (-52), 3) := by decide +kernel
theorem dX11_mayHave_82 : decode cX11_mayHave 82 = .ok (.iload_n 1, 1) := by decide +kernel
theorem dX11_mayHave_83 : decode cX11_mayHave 83 = .ok (.ireturn, 1) := by decide +kernel
theorem dX11_wantOne_0 : decode cX11_wantOne 0 = .ok (.aload_n 0, 1) := by decide +kernel
theorem dX11_wantOne_1 : decode cX11_wantOne 1 = .ok (.aload_n 0, 1) := by decide +kernel
theorem dX11_wantOne_2 : decode cX11_wantOne 2 = .ok (.getfield 7, 3) := by decide +kernel
theorem dX11_wantOne_5 : decode cX11_wantOne 5 = .ok (.iconst 2, 1) := by decide +kernel
theorem dX11_wantOne_6 : decode cX11_wantOne 6 = .ok (.iaload, 1) := by decide +kernel
theorem dX11_wantOne_7 : decode cX11_wantOne 7 = .ok (.bipush 8, 2) := by decide +kernel
theorem dX11_wantOne_9 : decode cX11_wantOne 9 = .ok (.if_icmp .ge 7, 3) := by decide +kernel
theorem dX11_wantOne_12 : decode cX11_wantOne 12 = .ok (.iconst 1, 1) := by decide +kernel
theorem dX11_wantOne_13 : decode cX11_wantOne 13 = .ok (.goto 4, 3) := by decide +kernel
theorem dX11_wantOne_16 : decode cX11_wantOne 16 = .ok (.iconst 0, 1) := by decide +kernel
theorem dX11_wantOne_17 : decode cX11_wantOne 17 = .ok (.putfield 210, 3) := by decide +kernel
theorem dX11_wantOne_20 : decode cX11_wantOne 20 = .ok (.aload_n 0, 1) := by decide +kernel
theorem dX11_wantOne_21 : decode cX11_wantOne 21 = .ok (.getfield 210, 3) := by decide +kernel
theorem dX11_wantOne_24 : decode cX11_wantOne 24 = .ok (.ifCond .ne 4, 3) := by decide +kernel
theorem dX11_wantOne_27 : decode cX11_wantOne 27 = .ok (.return_, 1) := by decide +kernel
theorem dX11_wantOne_28 : decode cX11_wantOne 28 = .ok (.aload_n 0, 1) := by decide +kernel
theorem dX11_wantOne_29 : decode cX11_wantOne 29 = .ok (.invokevirtual 214, 3) := by decide +kernel
theorem dX11_wantOne_32 : decode cX11_wantOne 32 = .ok (.aload_n 0, 1) := by decide +kernel
theorem dX11_wantOne_33 : decode cX11_wantOne 33 = .ok (.ldc2_w 222, 3) := by decide +kernel
theorem dX11_wantOne_36 : decode cX11_wantOne 36 = .ok (.iconst 0, 1) := by decide +kernel
theorem dX11_wantOne_37 : decode cX11_wantOne 37 = .ok (.bipush 70, 2) := by decide +kernel
theorem dX11_wantOne_39 : decode cX11_wantOne 39 = .ok (.iconst 0, 1) := by decide +kernel
theorem dX11_wantOne_40 : decode cX11_wantOne 40 = .ok (.invokevirtual 224, 3) := by decide +kernel
theorem dX11_wantOne_43 : decode cX11_wantOne 43 = .ok (.istore_n 2, 1) := by decide +kernel
theorem dX11_wantOne_44 : decode cX11_wantOne 44 = .ok (.aload_n 0, 1) := by decide +kernel
theorem dX11_wantOne_45 : decode cX11_wantOne 45 = .ok (.invokevirtual 228, 3) := by decide +kernel
theorem dX11_wantOne_48 : decode cX11_wantOne 48 = .ok (.istore_n 3, 1) := by decide +kernel
theorem dX11_wantOne_49 : decode cX11_wantOne 49 = .ok (.aload_n 0, 1) := by decide +kernel
theorem dX11_wantOne_50 : decode cX11_wantOne 50 = .ok (.ldc2_w 231, 3) := by decide +kernel
theorem dX11_wantOne_53 : decode cX11_wantOne 53 = .ok (.iconst 0, 1) := by decide +kernel
theorem dX11_wantOne_54 : decode cX11_wantOne 54 = .ok (.aload_n 0, 1) := by decide +kernel
theorem dX11_wantOne_55 : decode cX11_wantOne 55 = .ok (.getfield 7, 3) := by decide +kernel
theorem dX11_wantOne_58 : decode cX11_wantOne 58 = .ok (.iconst 2, 1) := by decide +kernel
theorem dX11_wantOne_59 : decode cX11_wantOne 59 = .ok (.iaload, 1) := by decide +kernel
theorem dX11_wantOne_60 : decode cX11_wantOne 60 = .ok (.iconst (-1), 1) := by decide +kernel
theorem dX11_wantOne_61 : decode cX11_wantOne 61 = .ok (.invokevirtual 224, 3) := by decide +kernel
theorem dX11_wantOne_64 : decode cX11_wantOne 64 = .ok (.istore 4, 2) := by decide +kernel
theorem dX11_wantOne_66 : decode cX11_wantOne 66 = .ok (.aload_n 0, 1) := by decide +kernel
theorem dX11_wantOne_67 : decode cX11_wantOne 67 = .ok (.getfield 210, 3) := by decide +kernel
theorem dX11_wantOne_70 : decode cX11_wantOne 70 = .ok (.ifCond .eq 12, 3) := by decide +kernel
theorem dX11_wantOne_73 : decode cX11_wantOne 73 = .ok (.aload_n 0, 1) := by decide +kernel
theorem dX11_wantOne_74 : decode cX11_wantOne 74 = .ok (.iload_n 1, 1) := by decide +kernel
theorem dX11_wantOne_75 : decode cX11_wantOne 75 = .ok (.iload_n 2, 1) := by decide +kernel
theorem dX11_wantOne_76 : decode cX11_wantOne 76 = .ok (.iload_n 3, 1) := by decide +kernel
theorem dX11_wantOne_77 : decode cX11_wantOne 77 = .ok (.iload 4, 2) := by decide +kernel
theorem dX11_wantOne_79 : decode cX11_wantOne 79 = .ok (.invokevirtual 90, 3) := by decide +kernel
theorem dX11_wantOne_82 : decode cX11_wantOne 82 = .ok (.return_, 1) := by decide +kernel
theorem dX11_wantItem_0 : decode cX11_wantItem 0 = .ok (.aload_n 0, 1) := by decide +kernel
theorem dX11_wantItem_1 : decode cX11_wantItem 1 = .ok (.invokevirtual 233, 3) := by decide +kernel
theorem dX11_wantItem_4 : decode cX11_wantItem 4 = .ok (.ifCond .lt 14, 3) := by decide +kernel
theorem dX11_wantItem_7 : decode cX11_wantItem 7 = .ok (.aload_n 0, 1) := by decide +kernel
theorem dX11_wantItem_8 : decode cX11_wantItem 8 = .ok (.aload_n 0, 1) := by decide +kernel
theorem dX11_wantItem_9 : decode cX11_wantItem 9 = .ok (.invokevirtual 233, 3) := by decide +kernel
theorem dX11_wantItem_12 : decode cX11_wantItem 12 = .ok (.invokevirtual 236, 3) := by decide +kernel
theorem dX11_wantItem_15 : decode cX11_wantItem 15 = .ok (.goto 116, 3) := by decide +kernel
theorem dX11_wantItem_18 : decode cX11_wantItem 18 = .ok (.aload_n 0, 1) := by decide +kernel
theorem dX11_wantItem_19 : decode cX11_wantItem 19 = .ok (.ldc2_w 239, 3) := by decide +kernel
theorem dX11_wantItem_22 : decode cX11_wantItem 22 = .ok (.invokevirtual 196, 3) := by decide +kernel
theorem dX11_wantItem_25 : decode cX11_wantItem 25 = .ok (.ifCond .eq 53, 3) := by decide +kernel
theorem dX11_wantItem_28 : decode cX11_wantItem 28 = .ok (.aload_n 0, 1) := by decide +kernel
theorem dX11_wantItem_29 : decode cX11_wantItem 29 = .ok (.invokevirtual 214, 3) := by decide +kernel
theorem dX11_wantItem_32 : decode cX11_wantItem 32 = .ok (.aload_n 0, 1) := by decide +kernel
theorem dX11_wantItem_33 : decode cX11_wantItem 33 = .ok (.iconst 0, 1) := by decide +kernel
theorem dX11_wantItem_34 : decode cX11_wantItem 34 = .ok (.bipush 15, 2) := by decide +kernel
theorem dX11_wantItem_36 : decode cX11_wantItem 36 = .ok (.invokevirtual 217, 3) := by decide +kernel
theorem dX11_wantItem_39 : decode cX11_wantItem 39 = .ok (.istore_n 1, 1) := by decide +kernel
theorem dX11_wantItem_40 : decode cX11_wantItem 40 = .ok (.aload_n 0, 1) := by decide +kernel
theorem dX11_wantItem_41 : decode cX11_wantItem 41 = .ok (.getfield 210, 3) := by decide +kernel
theorem dX11_wantItem_44 : decode cX11_wantItem 44 = .ok (.ifCond .eq 13, 3) := by decide +kernel
theorem dX11_wantItem_47 : decode cX11_wantItem 47 = .ok (.aload_n 0, 1) := by decide +kernel
theorem dX11_wantItem_48 : decode cX11_wantItem 48 = .ok (.iconst 0, 1) := by decide +kernel
theorem dX11_wantItem_49 : decode cX11_wantItem 49 = .ok (.bipush 99, 2) := by decide +kernel
theorem dX11_wantItem_51 : decode cX11_wantItem 51 = .ok (.invokevirtual 217, 3) := by decide +kernel
theorem dX11_wantItem_54 : decode cX11_wantItem 54 = .ok (.goto 4, 3) := by decide +kernel
theorem dX11_wantItem_57 : decode cX11_wantItem 57 = .ok (.iconst 0, 1) := by decide +kernel
theorem dX11_wantItem_58 : decode cX11_wantItem 58 = .ok (.istore_n 2, 1) := by decide +kernel
theorem dX11_wantItem_59 : decode cX11_wantItem 59 = .ok (.aload_n 0, 1) := by decide +kernel
theorem dX11_wantItem_60 : decode cX11_wantItem 60 = .ok (.getfield 210, 3) := by decide +kernel
theorem dX11_wantItem_63 : decode cX11_wantItem 63 = .ok (.ifCond .eq 12, 3) := by decide +kernel
theorem dX11_wantItem_66 : decode cX11_wantItem 66 = .ok (.aload_n 0, 1) := by decide +kernel
theorem dX11_wantItem_67 : decode cX11_wantItem 67 = .ok (.getfield 7, 3) := by decide +kernel
theorem dX11_wantItem_70 : decode cX11_wantItem 70 = .ok (.iconst 3, 1) := by decide +kernel
theorem dX11_wantItem_71 : decode cX11_wantItem 71 = .ok (.iload_n 1, 1) := by decide +kernel
theorem dX11_wantItem_72 : decode cX11_wantItem 72 = .ok (.iadd, 1) := by decide +kernel
theorem dX11_wantItem_73 : decode cX11_wantItem 73 = .ok (.iload_n 2, 1) := by decide +kernel
theorem dX11_wantItem_74 : decode cX11_wantItem 74 = .ok (.iastore, 1) := by decide +kernel
theorem dX11_wantItem_75 : decode cX11_wantItem 75 = .ok (.goto 56, 3) := by decide +kernel
theorem dX11_wantItem_78 : decode cX11_wantItem 78 = .ok (.aload_n 0, 1) := by decide +kernel
theorem dX11_wantItem_79 : decode cX11_wantItem 79 = .ok (.ldc2_w 241, 3) := by decide +kernel
theorem dX11_wantItem_82 : decode cX11_wantItem 82 = .ok (.invokevirtual 196, 3) := by decide +kernel
theorem dX11_wantItem_85 : decode cX11_wantItem 85 = .ok (.ifCond .eq 41, 3) := by decide +kernel
theorem dX11_wantItem_88 : decode cX11_wantItem 88 = .ok (.aload_n 0, 1) := by decide +kernel
theorem dX11_wantItem_89 : decode cX11_wantItem 89 = .ok (.invokevirtual 214, 3) := by decide +kernel
theorem dX11_wantItem_92 : decode cX11_wantItem 92 = .ok (.aload_n 0, 1) := by decide +kernel
theorem dX11_wantItem_93 : decode cX11_wantItem 93 = .ok (.iconst 0, 1) := by decide +kernel
theorem dX11_wantItem_94 : decode cX11_wantItem 94 = .ok (.bipush 15, 2) := by decide +kernel
theorem dX11_wantItem_96 : decode cX11_wantItem 96 = .ok (.invokevirtual 217, 3) := by decide +kernel
theorem dX11_wantItem_99 : decode cX11_wantItem 99 = .ok (.istore_n 1, 1) := by decide +kernel
theorem dX11_wantItem_100 : decode cX11_wantItem 100 = .ok (.aload_n 0, 1) := by decide +kernel
theorem dX11_wantItem_101 : decode cX11_wantItem 101 = .ok (.getfield 7, 3) := by decide +kernel
theorem dX11_wantItem_104 : decode cX11_wantItem 104 = .ok (.iconst 1, 1) := by decide +kernel
theorem dX11_wantItem_105 : decode cX11_wantItem 105 = .ok (.dup2, 1) := by decide +kernel
theorem dX11_wantItem_106 : decode cX11_wantItem 106 = .ok (.iaload, 1) := by decide +kernel
theorem dX11_wantItem_107 : decode cX11_wantItem 107 = .ok (.aload_n 0, 1) := by decide +kernel
theorem dX11_wantItem_108 : decode cX11_wantItem 108 = .ok (.getfield 210, 3) := by decide +kernel
theorem dX11_wantItem_111 : decode cX11_wantItem 111 = .ok (.ifCond .eq 9, 3) := by decide +kernel
theorem dX11_wantItem_114 : decode cX11_wantItem 114 = .ok (.iconst 1, 1) := by decide +kernel
theorem dX11_wantItem_115 : decode cX11_wantItem 115 = .ok (.iload_n 1, 1) := by decide +kernel
theorem dX11_wantItem_116 : decode cX11_wantItem 116 = .ok (.ishl, 1) := by decide +kernel
theorem dX11_wantItem_117 : decode cX11_wantItem 117 = .ok (.goto 4, 3) := by decide +kernel
theorem dX11_wantItem_120 : decode cX11_wantItem 120 = .ok (.iconst 0, 1) := by decide +kernel
theorem dX11_wantItem_121 : decode cX11_wantItem 121 = .ok (.ior, 1) := by decide +kernel
theorem dX11_wantItem_122 : decode cX11_wantItem 122 = .ok (.iastore, 1) := by decide +kernel
theorem dX11_wantItem_123 : decode cX11_wantItem 123 = .ok (.goto 8, 3) := by decide +kernel
theorem dX11_wantItem_126 : decode cX11_wantItem 126 = .ok (.aload_n 0, 1) := by decide +kernel
theorem dX11_wantItem_127 : decode cX11_wantItem 127 = .ok (.iconst 0, 1) := by decide +kernel
theorem dX11_wantItem_128 : decode cX11_wantItem 128 = .ok (.putfield 210, 3) := by decide +kernel
theorem dX11_wantItem_131 : decode cX11_wantItem 131 = .ok (.return_, 1) := by decide +kernel
theorem dX11_family_0 : decode cX11_family 0 = .ok (.aload_n 0, 1) := by decide +kernel
theorem dX11_family_1 : decode cX11_family 1 = .ok (.iconst 1, 1) := by decide +kernel
theorem dX11_family_2 : decode cX11_family 2 = .ok (.aload_n 0, 1) := by decide +kernel
theorem dX11_family_3 : decode cX11_family 3 = .ok (.getfield 41, 3) := by decide +kernel
theorem dX11_family_6 : decode cX11_family 6 = .ok (.invokevirtual 146, 3) := by decide +kernel
theorem dX11_family_9 : decode cX11_family 9 = .ok (.aload_n 0, 1) := by decide +kernel
theorem dX11_family_10 : decode cX11_family 10 = .ok (.iconst 0, 1) := by decide +kernel
theorem dX11_family_11 : decode cX11_family 11 = .ok (.putfield 163, 3) := by decide +kernel
theorem dX11_family_14 : decode cX11_family 14 = .ok (.aload_n 0, 1) := by decide +kernel
theorem dX11_family_15 : decode cX11_family 15 = .ok (.iconst 1, 1) := by decide +kernel
theorem dX11_family_16 : decode cX11_family 16 = .ok (.putfield 210, 3) := by decide +kernel
theorem dX11_family_19 : decode cX11_family 19 = .ok (.iconst 0, 1) := by decide +kernel
theorem dX11_family_20 : decode cX11_family 20 = .ok (.istore_n 1, 1) := by decide +kernel
theorem dX11_family_21 : decode cX11_family 21 = .ok (.iconst 1, 1) := by decide +kernel
theorem dX11_family_22 : decode cX11_family 22 = .ok (.istore_n 2, 1) := by decide +kernel
theorem dX11_family_23 : decode cX11_family 23 = .ok (.iload_n 2, 1) := by decide +kernel
theorem dX11_family_24 : decode cX11_family 24 = .ok (.ifCond .eq 47, 3) := by decide +kernel
theorem dX11_family_27 : decode cX11_family 27 = .ok (.aload_n 0, 1) := by decide +kernel
theorem dX11_family_28 : decode cX11_family 28 = .ok (.invokevirtual 214, 3) := by decide +kernel
theorem dX11_family_31 : decode cX11_family 31 = .ok (.aload_n 0, 1) := by decide +kernel
theorem dX11_family_32 : decode cX11_family 32 = .ok (.invokevirtual 243, 3) := by decide +kernel
theorem dX11_family_35 : decode cX11_family 35 = .ok (.iinc 1 1, 3) := by decide +kernel
theorem dX11_family_38 : decode cX11_family 38 = .ok (.aload_n 0, 1) := by decide +kernel
theorem dX11_family_39 : decode cX11_family 39 = .ok (.getfield 210, 3) := by decide +kernel
theorem dX11_family_42 : decode cX11_family 42 = .ok (.ifCond .eq 24, 3) := by decide +kernel
theorem dX11_family_45 : decode cX11_family 45 = .ok (.aload_n 0, 1) := by decide +kernel
theorem dX11_family_46 : decode cX11_family 46 = .ok (.getfield 178, 3) := by decide +kernel
theorem dX11_family_49 : decode cX11_family 49 = .ok (.iconst 3, 1) := by decide +kernel
theorem dX11_family_50 : decode cX11_family 50 = .ok (.if_icmp .ne 16, 3) := by decide +kernel
theorem dX11_family_53 : decode cX11_family 53 = .ok (.aload_n 0, 1) := by decide +kernel
theorem dX11_family_54 : decode cX11_family 54 = .ok (.getfield 185, 3) := by decide +kernel
theorem dX11_family_57 : decode cX11_family 57 = .ok (.bipush 59, 2) := by decide +kernel
theorem dX11_family_59 : decode cX11_family 59 = .ok (.if_icmp .ne 7, 3) := by decide +kernel
theorem dX11_family_62 : decode cX11_family 62 = .ok (.iconst 1, 1) := by decide +kernel
theorem dX11_family_63 : decode cX11_family 63 = .ok (.goto 4, 3) := by decide +kernel
theorem dX11_family_66 : decode cX11_family 66 = .ok (.iconst 0, 1) := by decide +kernel
theorem dX11_family_67 : decode cX11_family 67 = .ok (.istore_n 2, 1) := by decide +kernel
theorem dX11_family_68 : decode cX11_family 68 = .ok (.goto (-45), 3) := by decide +kernel
theorem dX11_family_71 : decode cX11_family 71 = .ok (.aload_n 0, 1) := by decide +kernel
theorem dX11_family_72 : decode cX11_family 72 = .ok (.aload_n 0, 1) := by decide +kernel
theorem dX11_family_73 : decode cX11_family 73 = .ok (.getfield 210, 3) := by decide +kernel
theorem dX11_family_76 : decode cX11_family 76 = .ok (.ifCond .eq 14, 3) := by decide +kernel
theorem dX11_family_79 : decode cX11_family 79 = .ok (.aload_n 0, 1) := by decide +kernel
theorem dX11_family_80 : decode cX11_family 80 = .ok (.getfield 178, 3) := by decide +kernel
theorem dX11_family_83 : decode cX11_family 83 = .ok (.ifCond .ne 7, 3) := by decide +kernel
theorem dX11_family_86 : decode cX11_family 86 = .ok (.iconst 1, 1) := by decide +kernel
theorem dX11_family_87 : decode cX11_family 87 = .ok (.goto 4, 3) := by decide +kernel
theorem dX11_family_90 : decode cX11_family 90 = .ok (.iconst 0, 1) := by decide +kernel
theorem dX11_family_91 : decode cX11_family 91 = .ok (.putfield 210, 3) := by decide +kernel
theorem dX11_family_94 : decode cX11_family 94 = .ok (.aload_n 0, 1) := by decide +kernel
theorem dX11_family_95 : decode cX11_family 95 = .ok (.iconst 0, 1) := by decide +kernel
theorem dX11_family_96 : decode cX11_family 96 = .ok (.putfield 159, 3) := by decide +kernel
theorem dX11_family_99 : decode cX11_family 99 = .ok (.aload_n 0, 1) := by decide +kernel
theorem dX11_family_100 : decode cX11_family 100 = .ok (.getfield 210, 3) := by decide +kernel
theorem dX11_family_103 : decode cX11_family 103 = .ok (.ifCond .ne 19, 3) := by decide +kernel
theorem dX11_family_106 : decode cX11_family 106 = .ok (.aload_n 0, 1) := by decide +kernel
theorem dX11_family_107 : decode cX11_family 107 = .ok (.iconst 0, 1) := by decide +kernel
theorem dX11_family_108 : decode cX11_family 108 = .ok (.aload_n 0, 1) := by decide +kernel
theorem dX11_family_109 : decode cX11_family 109 = .ok (.getfield 41, 3) := by decide +kernel
theorem dX11_family_112 : decode cX11_family 112 = .ok (.invokevirtual 146, 3) := by decide +kernel
theorem dX11_family_115 : decode cX11_family 115 = .ok (.iconst (-1), 1) := by decide +kernel
theorem dX11_family_116 : decode cX11_family 116 = .ok (.aload_n 0, 1) := by decide +kernel
theorem dX11_family_117 : decode cX11_family 117 = .ok (.getfield 166, 3) := by decide +kernel
theorem dX11_family_120 : decode cX11_family 120 = .ok (.isub, 1) := by decide +kernel
theorem dX11_family_121 : decode cX11_family 121 = .ok (.ireturn, 1) := by decide +kernel
theorem dX11_family_122 : decode cX11_family 122 = .ok (.iload_n 1, 1) := by decide +kernel
theorem dX11_family_123 : decode cX11_family 123 = .ok (.ireturn, 1) := by decide +kernel
theorem dX11_isSheet_0 : decode cX11_isSheet 0 = .ok (.iload_n 0, 1) := by decide +kernel
theorem dX11_isSheet_1 : decode cX11_isSheet 1 = .ok (.iconst 0, 1) := by decide +kernel
theorem dX11_isSheet_2 : decode cX11_isSheet 2 = .ok (.iconst 3, 1) := by decide +kernel
theorem dX11_isSheet_3 : decode cX11_isSheet 3 = .ok (.invokestatic 45, 3) := by decide +kernel
theorem dX11_isSheet_6 : decode cX11_isSheet 6 = .ok (.ireturn, 1) := by decide +kernel
theorem dX11_narrow_0 : decode cX11_narrow 0 = .ok (.iload_n 0, 1) := by decide +kernel
theorem dX11_narrow_1 : decode cX11_narrow 1 = .ok (.bipush 8, 2) := by decide +kernel
theorem dX11_narrow_3 : decode cX11_narrow 3 = .ok (.if_icmp .ne 13, 3) := by decide +kernel
theorem dX11_narrow_6 : decode cX11_narrow 6 = .ok (.lload_n 1, 1) := by decide +kernel
theorem dX11_narrow_7 : decode cX11_narrow 7 = .ok (.bipush 56, 2) := by decide +kernel
theorem dX11_narrow_9 : decode cX11_narrow 9 = .ok (.lshl, 1) := by decide +kernel
theorem dX11_narrow_10 : decode cX11_narrow 10 = .ok (.bipush 56, 2) := by decide +kernel
theorem dX11_narrow_12 : decode cX11_narrow 12 = .ok (.lshr, 1) := by decide +kernel
theorem dX11_narrow_13 : decode cX11_narrow 13 = .ok (.goto 20, 3) := by decide +kernel
theorem dX11_narrow_16 : decode cX11_narrow 16 = .ok (.iload_n 0, 1) := by decide +kernel
theorem dX11_narrow_17 : decode cX11_narrow 17 = .ok (.bipush 16, 2) := by decide +kernel
theorem dX11_narrow_19 : decode cX11_narrow 19 = .ok (.if_icmp .ne 13, 3) := by decide +kernel
theorem dX11_narrow_22 : decode cX11_narrow 22 = .ok (.lload_n 1, 1) := by decide +kernel
theorem dX11_narrow_23 : decode cX11_narrow 23 = .ok (.bipush 48, 2) := by decide +kernel
theorem dX11_narrow_25 : decode cX11_narrow 25 = .ok (.lshl, 1) := by decide +kernel
theorem dX11_narrow_26 : decode cX11_narrow 26 = .ok (.bipush 48, 2) := by decide +kernel
theorem dX11_narrow_28 : decode cX11_narrow 28 = .ok (.lshr, 1) := by decide +kernel
theorem dX11_narrow_29 : decode cX11_narrow 29 = .ok (.goto 4, 3) := by decide +kernel
theorem dX11_narrow_32 : decode cX11_narrow 32 = .ok (.lload_n 1, 1) := by decide +kernel
theorem dX11_narrow_33 : decode cX11_narrow 33 = .ok (.lreturn, 1) := by decide +kernel
theorem dX11_sheet_0 : decode cX11_sheet 0 = .ok (.iload_n 1, 1) := by decide +kernel
theorem dX11_sheet_1 : decode cX11_sheet 1 = .ok (.invokestatic 246, 3) := by decide +kernel
theorem dX11_sheet_4 : decode cX11_sheet 4 = .ok (.ifCond .eq 25, 3) := by decide +kernel
theorem dX11_sheet_7 : decode cX11_sheet 7 = .ok (.iload_n 2, 1) := by decide +kernel
theorem dX11_sheet_8 : decode cX11_sheet 8 = .ok (.ifCond .eq 28, 3) := by decide +kernel
theorem dX11_sheet_11 : decode cX11_sheet 11 = .ok (.iload_n 2, 1) := by decide +kernel
theorem dX11_sheet_12 : decode cX11_sheet 12 = .ok (.bipush 8, 2) := by decide +kernel
theorem dX11_sheet_14 : decode cX11_sheet 14 = .ok (.if_icmp .eq 22, 3) := by decide +kernel
theorem dX11_sheet_17 : decode cX11_sheet 17 = .ok (.iload_n 2, 1) := by decide +kernel
theorem dX11_sheet_18 : decode cX11_sheet 18 = .ok (.bipush 16, 2) := by decide +kernel
theorem dX11_sheet_20 : decode cX11_sheet 20 = .ok (.if_icmp .eq 16, 3) := by decide +kernel
theorem dX11_sheet_23 : decode cX11_sheet 23 = .ok (.iload_n 2, 1) := by decide +kernel
theorem dX11_sheet_24 : decode cX11_sheet 24 = .ok (.bipush 64, 2) := by decide +kernel
theorem dX11_sheet_26 : decode cX11_sheet 26 = .ok (.if_icmp .eq 10, 3) := by decide +kernel
theorem dX11_sheet_29 : decode cX11_sheet 29 = .ok (.aload_n 0, 1) := by decide +kernel
theorem dX11_sheet_30 : decode cX11_sheet 30 = .ok (.ldc 44, 2) := by decide +kernel
theorem dX11_sheet_32 : decode cX11_sheet 32 = .ok (.invokevirtual 57, 3) := by decide +kernel
theorem dX11_sheet_35 : decode cX11_sheet 35 = .ok (.ireturn, 1) := by decide +kernel
theorem dX11_sheet_36 : decode cX11_sheet 36 = .ok (.iload_n 3, 1) := by decide +kernel
theorem dX11_sheet_37 : decode cX11_sheet 37 = .ok (.ifCond .ge 10, 3) := by decide +kernel
theorem dX11_sheet_40 : decode cX11_sheet 40 = .ok (.aload_n 0, 1) := by decide +kernel
theorem dX11_sheet_41 : decode cX11_sheet 41 = .ok (.ldc 158, 2) := by decide +kernel
theorem dX11_sheet_43 : decode cX11_sheet 43 = .ok (.invokevirtual 57, 3) := by decide +kernel
theorem dX11_sheet_46 : decode cX11_sheet 46 = .ok (.ireturn, 1) := by decide +kernel
theorem dX11_sheet_47 : decode cX11_sheet 47 = .ok (.iload_n 3, 1) := by decide +kernel
theorem dX11_sheet_48 : decode cX11_sheet 48 = .ok (.bipush 40, 2) := by decide +kernel
theorem dX11_sheet_50 : decode cX11_sheet 50 = .ok (.if_icmp .le 10, 3) := by decide +kernel
theorem dX11_sheet_53 : decode cX11_sheet 53 = .ok (.aload_n 0, 1) := by decide +kernel
theorem dX11_sheet_54 : decode cX11_sheet 54 = .ok (.ldc 44, 2) := by decide +kernel
theorem dX11_sheet_56 : decode cX11_sheet 56 = .ok (.invokevirtual 57, 3) := by decide +kernel
theorem dX11_sheet_59 : decode cX11_sheet 59 = .ok (.ireturn, 1) := by decide +kernel
theorem dX11_sheet_60 : decode cX11_sheet 60 = .ok (.aload_n 0, 1) := by decide +kernel
theorem dX11_sheet_61 : decode cX11_sheet 61 = .ok (.getfield 25, 3) := by decide +kernel
theorem dX11_sheet_64 : decode cX11_sheet 64 = .ok (.iload_n 1, 1) := by decide +kernel
theorem dX11_sheet_65 : decode cX11_sheet 65 = .ok (.iload_n 2, 1) := by decide +kernel
theorem dX11_sheet_66 : decode cX11_sheet 66 = .ok (.iastore, 1) := by decide +kernel
theorem dX11_sheet_67 : decode cX11_sheet 67 = .ok (.aload_n 0, 1) := by decide +kernel
theorem dX11_sheet_68 : decode cX11_sheet 68 = .ok (.getfield 28, 3) := by decide +kernel
theorem dX11_sheet_71 : decode cX11_sheet 71 = .ok (.iload_n 1, 1) := by decide +kernel
theorem dX11_sheet_72 : decode cX11_sheet 72 = .ok (.iload_n 2, 1) := by decide +kernel
theorem dX11_sheet_73 : decode cX11_sheet 73 = .ok (.ifCond .ne 7, 3) := by decide +kernel
theorem dX11_sheet_76 : decode cX11_sheet 76 = .ok (.iconst 0, 1) := by decide +kernel
theorem dX11_sheet_77 : decode cX11_sheet 77 = .ok (.goto 4, 3) := by decide +kernel
theorem dX11_sheet_80 : decode cX11_sheet 80 = .ok (.iload_n 3, 1) := by decide +kernel
theorem dX11_sheet_81 : decode cX11_sheet 81 = .ok (.iastore, 1) := by decide +kernel
theorem dX11_sheet_82 : decode cX11_sheet 82 = .ok (.iconst 0, 1) := by decide +kernel
theorem dX11_sheet_83 : decode cX11_sheet 83 = .ok (.istore 4, 2) := by decide +kernel
theorem dX11_sheet_85 : decode cX11_sheet 85 = .ok (.iload 4, 2) := by decide +kernel
theorem dX11_sheet_87 : decode cX11_sheet 87 = .ok (.bipush 40, 2) := by decide +kernel
theorem dX11_sheet_89 : decode cX11_sheet 89 = .ok (.if_icmp .ge 22, 3) := by decide +kernel
theorem dX11_sheet_92 : decode cX11_sheet 92 = .ok (.aload_n 0, 1) := by decide +kernel
theorem dX11_sheet_93 : decode cX11_sheet 93 = .ok (.getfield 31, 3) := by decide +kernel
theorem dX11_sheet_96 : decode cX11_sheet 96 = .ok (.bipush 40, 2) := by decide +kernel
theorem dX11_sheet_98 : decode cX11_sheet 98 = .ok (.iload_n 1, 1) := by decide +kernel
theorem dX11_sheet_99 : decode cX11_sheet 99 = .ok (.imul, 1) := by decide +kernel
theorem dX11_sheet_100 : decode cX11_sheet 100 = .ok (.iload 4, 2) := by decide +kernel
theorem dX11_sheet_102 : decode cX11_sheet 102 = .ok (.iadd, 1) := by decide +kernel
theorem dX11_sheet_103 : decode cX11_sheet 103 = .ok (.lconst 0, 1) := by decide +kernel
theorem dX11_sheet_104 : decode cX11_sheet 104 = .ok (.lastore, 1) := by decide +kernel
theorem dX11_sheet_105 : decode cX11_sheet 105 = .ok (.iinc 4 1, 3) := by decide +kernel
theorem dX11_sheet_108 : decode cX11_sheet 108 = .ok (.goto (-23), 3) := by decide +kernel
theorem dX11_sheet_111 : decode cX11_sheet 111 = .ok (.aload_n 0, 1) := by decide +kernel
theorem dX11_sheet_112 : decode cX11_sheet 112 = .ok (.getfield 28, 3) := by decide +kernel
theorem dX11_sheet_115 : decode cX11_sheet 115 = .ok (.iload_n 1, 1) := by decide +kernel
theorem dX11_sheet_116 : decode cX11_sheet 116 = .ok (.iaload, 1) := by decide +kernel
theorem dX11_sheet_117 : decode cX11_sheet 117 = .ok (.ireturn, 1) := by decide +kernel
theorem dX11_write_0 : decode cX11_write 0 = .ok (.iload_n 1, 1) := by decide +kernel
theorem dX11_write_1 : decode cX11_write 1 = .ok (.invokestatic 246, 3) := by decide +kernel
theorem dX11_write_4 : decode cX11_write 4 = .ok (.ifCond .ne 11, 3) := by decide +kernel
theorem dX11_write_7 : decode cX11_write 7 = .ok (.aload_n 0, 1) := by decide +kernel
theorem dX11_write_8 : decode cX11_write 8 = .ok (.ldc 44, 2) := by decide +kernel
theorem dX11_write_10 : decode cX11_write 10 = .ok (.invokevirtual 57, 3) := by decide +kernel
theorem dX11_write_13 : decode cX11_write 13 = .ok (.i2l, 1) := by decide +kernel
theorem dX11_write_14 : decode cX11_write 14 = .ok (.lreturn, 1) := by decide +kernel
theorem dX11_write_15 : decode cX11_write 15 = .ok (.aload_n 0, 1) := by decide +kernel
theorem dX11_write_16 : decode cX11_write 16 = .ok (.getfield 25, 3) := by decide +kernel
theorem dX11_write_19 : decode cX11_write 19 = .ok (.iload_n 1, 1) := by decide +kernel
theorem dX11_write_20 : decode cX11_write 20 = .ok (.iaload, 1) := by decide +kernel
theorem dX11_write_21 : decode cX11_write 21 = .ok (.ifCond .ne 11, 3) := by decide +kernel
theorem dX11_write_24 : decode cX11_write 24 = .ok (.aload_n 0, 1) := by decide +kernel
theorem dX11_write_25 : decode cX11_write 25 = .ok (.ldc 249, 2) := by decide +kernel
theorem dX11_write_27 : decode cX11_write 27 = .ok (.invokevirtual 57, 3) := by decide +kernel
theorem dX11_write_30 : decode cX11_write 30 = .ok (.i2l, 1) := by decide +kernel
theorem dX11_write_31 : decode cX11_write 31 = .ok (.lreturn, 1) := by decide +kernel
theorem dX11_write_32 : decode cX11_write 32 = .ok (.iload_n 2, 1) := by decide +kernel
theorem dX11_write_33 : decode cX11_write 33 = .ok (.iconst 0, 1) := by decide +kernel
theorem dX11_write_34 : decode cX11_write 34 = .ok (.aload_n 0, 1) := by decide +kernel
theorem dX11_write_35 : decode cX11_write 35 = .ok (.getfield 28, 3) := by decide +kernel
theorem dX11_write_38 : decode cX11_write 38 = .ok (.iload_n 1, 1) := by decide +kernel
theorem dX11_write_39 : decode cX11_write 39 = .ok (.iaload, 1) := by decide +kernel
theorem dX11_write_40 : decode cX11_write 40 = .ok (.iconst 1, 1) := by decide +kernel
theorem dX11_write_41 : decode cX11_write 41 = .ok (.isub, 1) := by decide +kernel
theorem dX11_write_42 : decode cX11_write 42 = .ok (.invokestatic 45, 3) := by decide +kernel
theorem dX11_write_45 : decode cX11_write 45 = .ok (.ifCond .ne 11, 3) := by decide +kernel
theorem dX11_write_48 : decode cX11_write 48 = .ok (.aload_n 0, 1) := by decide +kernel
theorem dX11_write_49 : decode cX11_write 49 = .ok (.ldc 44, 2) := by decide +kernel
theorem dX11_write_51 : decode cX11_write 51 = .ok (.invokevirtual 57, 3) := by decide +kernel
theorem dX11_write_54 : decode cX11_write 54 = .ok (.i2l, 1) := by decide +kernel
theorem dX11_write_55 : decode cX11_write 55 = .ok (.lreturn, 1) := by decide +kernel
theorem dX11_write_56 : decode cX11_write 56 = .ok (.aload_n 0, 1) := by decide +kernel
theorem dX11_write_57 : decode cX11_write 57 = .ok (.getfield 31, 3) := by decide +kernel
theorem dX11_write_60 : decode cX11_write 60 = .ok (.bipush 40, 2) := by decide +kernel
theorem dX11_write_62 : decode cX11_write 62 = .ok (.iload_n 1, 1) := by decide +kernel
theorem dX11_write_63 : decode cX11_write 63 = .ok (.imul, 1) := by decide +kernel
theorem dX11_write_64 : decode cX11_write 64 = .ok (.iload_n 2, 1) := by decide +kernel
theorem dX11_write_65 : decode cX11_write 65 = .ok (.iadd, 1) := by decide +kernel
theorem dX11_write_66 : decode cX11_write 66 = .ok (.laload, 1) := by decide +kernel
theorem dX11_write_67 : decode cX11_write 67 = .ok (.lstore 5, 2) := by decide +kernel
theorem dX11_write_69 : decode cX11_write 69 = .ok (.aload_n 0, 1) := by decide +kernel
theorem dX11_write_70 : decode cX11_write 70 = .ok (.getfield 31, 3) := by decide +kernel
theorem dX11_write_73 : decode cX11_write 73 = .ok (.bipush 40, 2) := by decide +kernel
theorem dX11_write_75 : decode cX11_write 75 = .ok (.iload_n 1, 1) := by decide +kernel
theorem dX11_write_76 : decode cX11_write 76 = .ok (.imul, 1) := by decide +kernel
theorem dX11_write_77 : decode cX11_write 77 = .ok (.iload_n 2, 1) := by decide +kernel
theorem dX11_write_78 : decode cX11_write 78 = .ok (.iadd, 1) := by decide +kernel
theorem dX11_write_79 : decode cX11_write 79 = .ok (.aload_n 0, 1) := by decide +kernel
theorem dX11_write_80 : decode cX11_write 80 = .ok (.getfield 25, 3) := by decide +kernel
theorem dX11_write_83 : decode cX11_write 83 = .ok (.iload_n 1, 1) := by decide +kernel
theorem dX11_write_84 : decode cX11_write 84 = .ok (.iaload, 1) := by decide +kernel
theorem dX11_write_85 : decode cX11_write 85 = .ok (.lload_n 3, 1) := by decide +kernel
theorem dX11_write_86 : decode cX11_write 86 = .ok (.invokestatic 250, 3) := by decide +kernel
theorem dX11_write_89 : decode cX11_write 89 = .ok (.lastore, 1) := by decide +kernel
theorem dX11_write_90 : decode cX11_write 90 = .ok (.lload 5, 2) := by decide +kernel
theorem dX11_write_92 : decode cX11_write 92 = .ok (.lreturn, 1) := by decide +kernel
theorem dX11_isPart__0 : decode cX11_isPart_ 0 = .ok (.iload_n 2, 1) := by decide +kernel
theorem dX11_isPart__1 : decode cX11_isPart_ 1 = .ok (.ifCond .lt 33, 3) := by decide +kernel
theorem dX11_isPart__4 : decode cX11_isPart_ 4 = .ok (.iload_n 3, 1) := by decide +kernel
theorem dX11_isPart__5 : decode cX11_isPart_ 5 = .ok (.ifCond .lt 29, 3) := by decide +kernel
theorem dX11_isPart__8 : decode cX11_isPart_ 8 = .ok (.iload_n 3, 1) := by decide +kernel
theorem dX11_isPart__9 : decode cX11_isPart_ 9 = .ok (.aload_n 0, 1) := by decide +kernel
theorem dX11_isPart__10 : decode cX11_isPart_ 10 = .ok (.getfield 28, 3) := by decide +kernel
theorem dX11_isPart__13 : decode cX11_isPart_ 13 = .ok (.iload_n 1, 1) := by decide +kernel
theorem dX11_isPart__14 : decode cX11_isPart_ 14 = .ok (.iaload, 1) := by decide +kernel
theorem dX11_isPart__15 : decode cX11_isPart_ 15 = .ok (.if_icmp .gt 19, 3) := by decide +kernel
theorem dX11_isPart__18 : decode cX11_isPart_ 18 = .ok (.iload_n 2, 1) := by decide +kernel
theorem dX11_isPart__19 : decode cX11_isPart_ 19 = .ok (.aload_n 0, 1) := by decide +kernel
theorem dX11_isPart__20 : decode cX11_isPart_ 20 = .ok (.getfield 28, 3) := by decide +kernel
theorem dX11_isPart__23 : decode cX11_isPart_ 23 = .ok (.iload_n 1, 1) := by decide +kernel
theorem dX11_isPart__24 : decode cX11_isPart_ 24 = .ok (.iaload, 1) := by decide +kernel
theorem dX11_isPart__25 : decode cX11_isPart_ 25 = .ok (.iload_n 3, 1) := by decide +kernel
theorem dX11_isPart__26 : decode cX11_isPart_ 26 = .ok (.isub, 1) := by decide +kernel
theorem dX11_isPart__27 : decode cX11_isPart_ 27 = .ok (.if_icmp .gt 7, 3) := by decide +kernel
theorem dX11_isPart__30 : decode cX11_isPart_ 30 = .ok (.iconst 1, 1) := by decide +kernel
theorem dX11_isPart__31 : decode cX11_isPart_ 31 = .ok (.goto 4, 3) := by decide +kernel
theorem dX11_isPart__34 : decode cX11_isPart_ 34 = .ok (.iconst 0, 1) := by decide +kernel
theorem dX11_isPart__35 : decode cX11_isPart_ 35 = .ok (.ireturn, 1) := by decide +kernel
theorem dX11_copy_0 : decode cX11_copy 0 = .ok (.iload_n 1, 1) := by decide +kernel
theorem dX11_copy_1 : decode cX11_copy 1 = .ok (.invokestatic 246, 3) := by decide +kernel
theorem dX11_copy_4 : decode cX11_copy 4 = .ok (.ifCond .eq 10, 3) := by decide +kernel
theorem dX11_copy_7 : decode cX11_copy 7 = .ok (.iload_n 3, 1) := by decide +kernel
theorem dX11_copy_8 : decode cX11_copy 8 = .ok (.invokestatic 246, 3) := by decide +kernel
theorem dX11_copy_11 : decode cX11_copy 11 = .ok (.ifCond .ne 10, 3) := by decide +kernel
theorem dX11_copy_14 : decode cX11_copy 14 = .ok (.aload_n 0, 1) := by decide +kernel
theorem dX11_copy_15 : decode cX11_copy 15 = .ok (.ldc 44, 2) := by decide +kernel
theorem dX11_copy_17 : decode cX11_copy 17 = .ok (.invokevirtual 57, 3) := by decide +kernel
theorem dX11_copy_20 : decode cX11_copy 20 = .ok (.ireturn, 1) := by decide +kernel
theorem dX11_copy_21 : decode cX11_copy 21 = .ok (.aload_n 0, 1) := by decide +kernel
theorem dX11_copy_22 : decode cX11_copy 22 = .ok (.getfield 25, 3) := by decide +kernel
theorem dX11_copy_25 : decode cX11_copy 25 = .ok (.iload_n 1, 1) := by decide +kernel
theorem dX11_copy_26 : decode cX11_copy 26 = .ok (.iaload, 1) := by decide +kernel
theorem dX11_copy_27 : decode cX11_copy 27 = .ok (.ifCond .eq 12, 3) := by decide +kernel
theorem dX11_copy_30 : decode cX11_copy 30 = .ok (.aload_n 0, 1) := by decide +kernel
theorem dX11_copy_31 : decode cX11_copy 31 = .ok (.getfield 25, 3) := by decide +kernel
theorem dX11_copy_34 : decode cX11_copy 34 = .ok (.iload_n 3, 1) := by decide +kernel
theorem dX11_copy_35 : decode cX11_copy 35 = .ok (.iaload, 1) := by decide +kernel
theorem dX11_copy_36 : decode cX11_copy 36 = .ok (.ifCond .ne 10, 3) := by decide +kernel
theorem dX11_copy_39 : decode cX11_copy 39 = .ok (.aload_n 0, 1) := by decide +kernel
theorem dX11_copy_40 : decode cX11_copy 40 = .ok (.ldc 249, 2) := by decide +kernel
theorem dX11_copy_42 : decode cX11_copy 42 = .ok (.invokevirtual 57, 3) := by decide +kernel
theorem dX11_copy_45 : decode cX11_copy 45 = .ok (.ireturn, 1) := by decide +kernel
theorem dX11_copy_46 : decode cX11_copy 46 = .ok (.aload_n 0, 1) := by decide +kernel
theorem dX11_copy_47 : decode cX11_copy 47 = .ok (.getfield 25, 3) := by decide +kernel
theorem dX11_copy_50 : decode cX11_copy 50 = .ok (.iload_n 1, 1) := by decide +kernel
theorem dX11_copy_51 : decode cX11_copy 51 = .ok (.iaload, 1) := by decide +kernel
theorem dX11_copy_52 : decode cX11_copy 52 = .ok (.aload_n 0, 1) := by decide +kernel
theorem dX11_copy_53 : decode cX11_copy 53 = .ok (.getfield 25, 3) := by decide +kernel
theorem dX11_copy_56 : decode cX11_copy 56 = .ok (.iload_n 3, 1) := by decide +kernel
theorem dX11_copy_57 : decode cX11_copy 57 = .ok (.iaload, 1) := by decide +kernel
theorem dX11_copy_58 : decode cX11_copy 58 = .ok (.if_icmp .eq 10, 3) := by decide +kernel
theorem dX11_copy_61 : decode cX11_copy 61 = .ok (.aload_n 0, 1) := by decide +kernel
theorem dX11_copy_62 : decode cX11_copy 62 = .ok (.ldc 111, 2) := by decide +kernel
theorem dX11_copy_64 : decode cX11_copy 64 = .ok (.invokevirtual 57, 3) := by decide +kernel
theorem dX11_copy_67 : decode cX11_copy 67 = .ok (.ireturn, 1) := by decide +kernel
theorem dX11_copy_68 : decode cX11_copy 68 = .ok (.aload_n 0, 1) := by decide +kernel
theorem dX11_copy_69 : decode cX11_copy 69 = .ok (.iload_n 1, 1) := by decide +kernel
theorem dX11_copy_70 : decode cX11_copy 70 = .ok (.iload_n 2, 1) := by decide +kernel
theorem dX11_copy_71 : decode cX11_copy 71 = .ok (.iload 5, 2) := by decide +kernel
theorem dX11_copy_73 : decode cX11_copy 73 = .ok (.invokevirtual 254, 3) := by decide +kernel
theorem dX11_copy_76 : decode cX11_copy 76 = .ok (.ifCond .eq 15, 3) := by decide +kernel
theorem dX11_copy_79 : decode cX11_copy 79 = .ok (.aload_n 0, 1) := by decide +kernel
theorem dX11_copy_80 : decode cX11_copy 80 = .ok (.iload_n 3, 1) := by decide +kernel
theorem dX11_copy_81 : decode cX11_copy 81 = .ok (.iload 4, 2) := by decide +kernel
theorem dX11_copy_83 : decode cX11_copy 83 = .ok (.iload 5, 2) := by decide +kernel
theorem dX11_copy_85 : decode cX11_copy 85 = .ok (.invokevirtual 254, 3) := by decide +kernel
theorem dX11_copy_88 : decode cX11_copy 88 = .ok (.ifCond .ne 10, 3) := by decide +kernel
theorem dX11_copy_91 : decode cX11_copy 91 = .ok (.aload_n 0, 1) := by decide +kernel
theorem dX11_copy_92 : decode cX11_copy 92 = .ok (.ldc 44, 2) := by decide +kernel
theorem dX11_copy_94 : decode cX11_copy 94 = .ok (.invokevirtual 57, 3) := by decide +kernel
theorem dX11_copy_97 : decode cX11_copy 97 = .ok (.ireturn, 1) := by decide +kernel
theorem dX11_copy_98 : decode cX11_copy 98 = .ok (.iconst 0, 1) := by decide +kernel
theorem dX11_copy_99 : decode cX11_copy 99 = .ok (.istore 6, 2) := by decide +kernel
theorem dX11_copy_101 : decode cX11_copy 101 = .ok (.iload 6, 2) := by decide +kernel
theorem dX11_copy_103 : decode cX11_copy 103 = .ok (.iload 5, 2) := by decide +kernel
theorem dX11_copy_105 : decode cX11_copy 105 = .ok (.if_icmp .ge 30, 3) := by decide +kernel
theorem dX11_copy_108 : decode cX11_copy 108 = .ok (.aload_n 0, 1) := by decide +kernel
theorem dX11_copy_109 : decode cX11_copy 109 = .ok (.getfield 35, 3) := by decide +kernel
theorem dX11_copy_112 : decode cX11_copy 112 = .ok (.iload 6, 2) := by decide +kernel
theorem dX11_copy_114 : decode cX11_copy 114 = .ok (.aload_n 0, 1) := by decide +kernel
theorem dX11_copy_115 : decode cX11_copy 115 = .ok (.getfield 31, 3) := by decide +kernel
theorem dX11_copy_118 : decode cX11_copy 118 = .ok (.bipush 40, 2) := by decide +kernel
theorem dX11_copy_120 : decode cX11_copy 120 = .ok (.iload_n 1, 1) := by decide +kernel
theorem dX11_copy_121 : decode cX11_copy 121 = .ok (.imul, 1) := by decide +kernel
theorem dX11_copy_122 : decode cX11_copy 122 = .ok (.iload_n 2, 1) := by decide +kernel
theorem dX11_copy_123 : decode cX11_copy 123 = .ok (.iadd, 1) := by decide +kernel
theorem dX11_copy_124 : decode cX11_copy 124 = .ok (.iload 6, 2) := by decide +kernel
theorem dX11_copy_126 : decode cX11_copy 126 = .ok (.iadd, 1) := by decide +kernel
theorem dX11_copy_127 : decode cX11_copy 127 = .ok (.laload, 1) := by decide +kernel
theorem dX11_copy_128 : decode cX11_copy 128 = .ok (.lastore, 1) := by decide +kernel
theorem dX11_copy_129 : decode cX11_copy 129 = .ok (.iinc 6 1, 3) := by decide +kernel
theorem dX11_copy_132 : decode cX11_copy 132 = .ok (.goto (-31), 3) := by decide +kernel
theorem dX11_copy_135 : decode cX11_copy 135 = .ok (.iconst 0, 1) := by decide +kernel
theorem dX11_copy_136 : decode cX11_copy 136 = .ok (.istore 6, 2) := by decide +kernel
theorem dX11_copy_138 : decode cX11_copy 138 = .ok (.iload 6, 2) := by decide +kernel
theorem dX11_copy_140 : decode cX11_copy 140 = .ok (.iload 5, 2) := by decide +kernel
theorem dX11_copy_142 : decode cX11_copy 142 = .ok (.if_icmp .ge 31, 3) := by decide +kernel
theorem dX11_copy_145 : decode cX11_copy 145 = .ok (.aload_n 0, 1) := by decide +kernel
theorem dX11_copy_146 : decode cX11_copy 146 = .ok (.getfield 31, 3) := by decide +kernel
theorem dX11_copy_149 : decode cX11_copy 149 = .ok (.bipush 40, 2) := by decide +kernel
theorem dX11_copy_151 : decode cX11_copy 151 = .ok (.iload_n 3, 1) := by decide +kernel
theorem dX11_copy_152 : decode cX11_copy 152 = .ok (.imul, 1) := by decide +kernel
theorem dX11_copy_153 : decode cX11_copy 153 = .ok (.iload 4, 2) := by decide +kernel
theorem dX11_copy_155 : decode cX11_copy 155 = .ok (.iadd, 1) := by decide +kernel
theorem dX11_copy_156 : decode cX11_copy 156 = .ok (.iload 6, 2) := by decide +kernel
theorem dX11_copy_158 : decode cX11_copy 158 = .ok (.iadd, 1) := by decide +kernel
theorem dX11_copy_159 : decode cX11_copy 159 = .ok (.aload_n 0, 1) := by decide +kernel
theorem dX11_copy_160 : decode cX11_copy 160 = .ok (.getfield 35, 3) := by decide +kernel
theorem dX11_copy_163 : decode cX11_copy 163 = .ok (.iload 6, 2) := by decide +kernel
theorem dX11_copy_165 : decode cX11_copy 165 = .ok (.laload, 1) := by decide +kernel
theorem dX11_copy_166 : decode cX11_copy 166 = .ok (.lastore, 1) := by decide +kernel
theorem dX11_copy_167 : decode cX11_copy 167 = .ok (.iinc 6 1, 3) := by decide +kernel
theorem dX11_copy_170 : decode cX11_copy 170 = .ok (.goto (-32), 3) := by decide +kernel
theorem dX11_copy_173 : decode cX11_copy 173 = .ok (.iload 5, 2) := by decide +kernel
theorem dX11_copy_175 : decode cX11_copy 175 = .ok (.ireturn, 1) := by decide +kernel
theorem dX11_badSheet_0 : decode cX11_badSheet 0 = .ok (.iload_n 1, 1) := by decide +kernel
theorem dX11_badSheet_1 : decode cX11_badSheet 1 = .ok (.invokestatic 246, 3) := by decide +kernel
theorem dX11_badSheet_4 : decode cX11_badSheet 4 = .ok (.ifCond .ne 8, 3) := by decide +kernel
theorem dX11_badSheet_7 : decode cX11_badSheet 7 = .ok (.ldc 44, 2) := by decide +kernel
theorem dX11_badSheet_9 : decode cX11_badSheet 9 = .ok (.goto 18, 3) := by decide +kernel
theorem dX11_badSheet_12 : decode cX11_badSheet 12 = .ok (.aload_n 0, 1) := by decide +kernel
theorem dX11_badSheet_13 : decode cX11_badSheet 13 = .ok (.getfield 25, 3) := by decide +kernel
theorem dX11_badSheet_16 : decode cX11_badSheet 16 = .ok (.iload_n 1, 1) := by decide +kernel
theorem dX11_badSheet_17 : decode cX11_badSheet 17 = .ok (.iaload, 1) := by decide +kernel
theorem dX11_badSheet_18 : decode cX11_badSheet 18 = .ok (.ifCond .ne 8, 3) := by decide +kernel
theorem dX11_badSheet_21 : decode cX11_badSheet 21 = .ok (.ldc 249, 2) := by decide +kernel
theorem dX11_badSheet_23 : decode cX11_badSheet 23 = .ok (.goto 4, 3) := by decide +kernel
theorem dX11_badSheet_26 : decode cX11_badSheet 26 = .ok (.iconst 0, 1) := by decide +kernel
theorem dX11_badSheet_27 : decode cX11_badSheet 27 = .ok (.ireturn, 1) := by decide +kernel
theorem dX11_lays_0 : decode cX11_lays 0 = .ok (.aload_n 0, 1) := by decide +kernel
theorem dX11_lays_1 : decode cX11_lays 1 = .ok (.iload_n 1, 1) := by decide +kernel
theorem dX11_lays_2 : decode cX11_lays 2 = .ok (.invokevirtual 256, 3) := by decide +kernel
theorem dX11_lays_5 : decode cX11_lays 5 = .ok (.istore_n 2, 1) := by decide +kernel
theorem dX11_lays_6 : decode cX11_lays 6 = .ok (.iload_n 2, 1) := by decide +kernel
theorem dX11_lays_7 : decode cX11_lays 7 = .ok (.ifCond .eq 9, 3) := by decide +kernel
theorem dX11_lays_10 : decode cX11_lays 10 = .ok (.aload_n 0, 1) := by decide +kernel
theorem dX11_lays_11 : decode cX11_lays 11 = .ok (.iload_n 2, 1) := by decide +kernel
theorem dX11_lays_12 : decode cX11_lays 12 = .ok (.invokevirtual 57, 3) := by decide +kernel
theorem dX11_lays_15 : decode cX11_lays 15 = .ok (.ireturn, 1) := by decide +kernel
theorem dX11_lays_16 : decode cX11_lays 16 = .ok (.iconst 0, 1) := by decide +kernel
theorem dX11_lays_17 : decode cX11_lays 17 = .ok (.istore_n 3, 1) := by decide +kernel
theorem dX11_lays_18 : decode cX11_lays 18 = .ok (.iconst 0, 1) := by decide +kernel
theorem dX11_lays_19 : decode cX11_lays 19 = .ok (.istore 4, 2) := by decide +kernel
theorem dX11_lays_21 : decode cX11_lays 21 = .ok (.iload 4, 2) := by decide +kernel
theorem dX11_lays_23 : decode cX11_lays 23 = .ok (.aload_n 0, 1) := by decide +kernel
theorem dX11_lays_24 : decode cX11_lays 24 = .ok (.getfield 28, 3) := by decide +kernel
theorem dX11_lays_27 : decode cX11_lays 27 = .ok (.iload_n 1, 1) := by decide +kernel
theorem dX11_lays_28 : decode cX11_lays 28 = .ok (.iaload, 1) := by decide +kernel
theorem dX11_lays_29 : decode cX11_lays 29 = .ok (.if_icmp .ge 61, 3) := by decide +kernel
theorem dX11_lays_32 : decode cX11_lays 32 = .ok (.iload 4, 2) := by decide +kernel
theorem dX11_lays_34 : decode cX11_lays 34 = .ok (.bipush 16, 2) := by decide +kernel
theorem dX11_lays_36 : decode cX11_lays 36 = .ok (.if_icmp .ge 54, 3) := by decide +kernel
theorem dX11_lays_39 : decode cX11_lays 39 = .ok (.aload_n 0, 1) := by decide +kernel
theorem dX11_lays_40 : decode cX11_lays 40 = .ok (.getfield 31, 3) := by decide +kernel
theorem dX11_lays_43 : decode cX11_lays 43 = .ok (.bipush 40, 2) := by decide +kernel
theorem dX11_lays_45 : decode cX11_lays 45 = .ok (.iload_n 1, 1) := by decide +kernel
theorem dX11_lays_46 : decode cX11_lays 46 = .ok (.imul, 1) := by decide +kernel
theorem dX11_lays_47 : decode cX11_lays 47 = .ok (.iload 4, 2) := by decide +kernel
theorem dX11_lays_49 : decode cX11_lays 49 = .ok (.iadd, 1) := by decide +kernel
theorem dX11_lays_50 : decode cX11_lays 50 = .ok (.laload, 1) := by decide +kernel
theorem dX11_lays_51 : decode cX11_lays 51 = .ok (.lstore 5, 2) := by decide +kernel
theorem dX11_lays_53 : decode cX11_lays 53 = .ok (.lload 5, 2) := by decide +kernel
theorem dX11_lays_55 : decode cX11_lays 55 = .ok (.lconst 0, 1) := by decide +kernel
theorem dX11_lays_56 : decode cX11_lays 56 = .ok (.lcmp, 1) := by decide +kernel
theorem dX11_lays_57 : decode cX11_lays 57 = .ok (.ifCond .lt 27, 3) := by decide +kernel
theorem dX11_lays_60 : decode cX11_lays 60 = .ok (.lload 5, 2) := by decide +kernel
theorem dX11_lays_62 : decode cX11_lays 62 = .ok (.ldc2_w 259, 3) := by decide +kernel
theorem dX11_lays_65 : decode cX11_lays 65 = .ok (.lcmp, 1) := by decide +kernel
theorem dX11_lays_66 : decode cX11_lays 66 = .ok (.ifCond .gt 18, 3) := by decide +kernel
theorem dX11_lays_69 : decode cX11_lays 69 = .ok (.aload_n 0, 1) := by decide +kernel
theorem dX11_lays_70 : decode cX11_lays 70 = .ok (.getfield 7, 3) := by decide +kernel
theorem dX11_lays_73 : decode cX11_lays 73 = .ok (.iconst 3, 1) := by decide +kernel
theorem dX11_lays_74 : decode cX11_lays 74 = .ok (.iload 4, 2) := by decide +kernel
theorem dX11_lays_76 : decode cX11_lays 76 = .ok (.iadd, 1) := by decide +kernel
theorem dX11_lays_77 : decode cX11_lays 77 = .ok (.lload 5, 2) := by decide +kernel
theorem dX11_lays_79 : decode cX11_lays 79 = .ok (.l2i, 1) := by decide +kernel
theorem dX11_lays_80 : decode cX11_lays 80 = .ok (.iastore, 1) := by decide +kernel
theorem dX11_lays_81 : decode cX11_lays 81 = .ok (.iinc 3 1, 3) := by decide +kernel
theorem dX11_lays_84 : decode cX11_lays 84 = .ok (.iinc 4 1, 3) := by decide +kernel
theorem dX11_lays_87 : decode cX11_lays 87 = .ok (.goto (-66), 3) := by decide +kernel
theorem dX11_lays_90 : decode cX11_lays 90 = .ok (.iload_n 3, 1) := by decide +kernel
theorem dX11_lays_91 : decode cX11_lays 91 = .ok (.ireturn, 1) := by decide +kernel
theorem dX11_book_0 : decode cX11_book 0 = .ok (.aload_n 0, 1) := by decide +kernel
theorem dX11_book_1 : decode cX11_book 1 = .ok (.iload_n 1, 1) := by decide +kernel
theorem dX11_book_2 : decode cX11_book 2 = .ok (.invokevirtual 256, 3) := by decide +kernel
theorem dX11_book_5 : decode cX11_book 5 = .ok (.istore_n 3, 1) := by decide +kernel
theorem dX11_book_6 : decode cX11_book 6 = .ok (.iload_n 3, 1) := by decide +kernel
theorem dX11_book_7 : decode cX11_book 7 = .ok (.ifCond .eq 9, 3) := by decide +kernel
theorem dX11_book_10 : decode cX11_book 10 = .ok (.aload_n 0, 1) := by decide +kernel
theorem dX11_book_11 : decode cX11_book 11 = .ok (.iload_n 3, 1) := by decide +kernel
theorem dX11_book_12 : decode cX11_book 12 = .ok (.invokevirtual 57, 3) := by decide +kernel
theorem dX11_book_15 : decode cX11_book 15 = .ok (.ireturn, 1) := by decide +kernel
theorem dX11_book_16 : decode cX11_book 16 = .ok (.aload_n 0, 1) := by decide +kernel
theorem dX11_book_17 : decode cX11_book 17 = .ok (.iload_n 2, 1) := by decide +kernel
theorem dX11_book_18 : decode cX11_book 18 = .ok (.invokevirtual 94, 3) := by decide +kernel
theorem dX11_book_21 : decode cX11_book 21 = .ok (.ifCond .ne 10, 3) := by decide +kernel
theorem dX11_book_24 : decode cX11_book 24 = .ok (.aload_n 0, 1) := by decide +kernel
theorem dX11_book_25 : decode cX11_book 25 = .ok (.ldc 44, 2) := by decide +kernel
theorem dX11_book_27 : decode cX11_book 27 = .ok (.invokevirtual 57, 3) := by decide +kernel
theorem dX11_book_30 : decode cX11_book 30 = .ok (.ireturn, 1) := by decide +kernel
theorem dX11_book_31 : decode cX11_book 31 = .ok (.aload_n 0, 1) := by decide +kernel
theorem dX11_book_32 : decode cX11_book 32 = .ok (.iconst 1, 1) := by decide +kernel
theorem dX11_book_33 : decode cX11_book 33 = .ok (.aload_n 0, 1) := by decide +kernel
theorem dX11_book_34 : decode cX11_book 34 = .ok (.getfield 16, 3) := by decide +kernel
theorem dX11_book_37 : decode cX11_book 37 = .ok (.invokevirtual 146, 3) := by decide +kernel
theorem dX11_book_40 : decode cX11_book 40 = .ok (.iconst 0, 1) := by decide +kernel
theorem dX11_book_41 : decode cX11_book 41 = .ok (.istore 4, 2) := by decide +kernel
theorem dX11_book_43 : decode cX11_book 43 = .ok (.iload 4, 2) := by decide +kernel
theorem dX11_book_45 : decode cX11_book 45 = .ok (.aload_n 0, 1) := by decide +kernel
theorem dX11_book_46 : decode cX11_book 46 = .ok (.getfield 28, 3) := by decide +kernel
theorem dX11_book_49 : decode cX11_book 49 = .ok (.iload_n 1, 1) := by decide +kernel
theorem dX11_book_50 : decode cX11_book 50 = .ok (.iaload, 1) := by decide +kernel
theorem dX11_book_51 : decode cX11_book 51 = .ok (.if_icmp .ge 35, 3) := by decide +kernel
theorem dX11_book_54 : decode cX11_book 54 = .ok (.aload_n 0, 1) := by decide +kernel
theorem dX11_book_55 : decode cX11_book 55 = .ok (.getfield 31, 3) := by decide +kernel
theorem dX11_book_58 : decode cX11_book 58 = .ok (.bipush 40, 2) := by decide +kernel
theorem dX11_book_60 : decode cX11_book 60 = .ok (.iload_n 1, 1) := by decide +kernel
theorem dX11_book_61 : decode cX11_book 61 = .ok (.imul, 1) := by decide +kernel
theorem dX11_book_62 : decode cX11_book 62 = .ok (.iload 4, 2) := by decide +kernel
theorem dX11_book_64 : decode cX11_book 64 = .ok (.iadd, 1) := by decide +kernel
theorem dX11_book_65 : decode cX11_book 65 = .ok (.aload_n 0, 1) := by decide +kernel
theorem dX11_book_66 : decode cX11_book 66 = .ok (.iload_n 2, 1) := by decide +kernel
theorem dX11_book_67 : decode cX11_book 67 = .ok (.iconst 2, 1) := by decide +kernel
theorem dX11_book_68 : decode cX11_book 68 = .ok (.invokevirtual 61, 3) := by decide +kernel
theorem dX11_book_71 : decode cX11_book 71 = .ok (.invokestatic 79, 3) := by decide +kernel
theorem dX11_book_74 : decode cX11_book 74 = .ok (.i2l, 1) := by decide +kernel
theorem dX11_book_75 : decode cX11_book 75 = .ok (.lastore, 1) := by decide +kernel
theorem dX11_book_76 : decode cX11_book 76 = .ok (.aload_n 0, 1) := by decide +kernel
theorem dX11_book_77 : decode cX11_book 77 = .ok (.invokevirtual 127, 3) := by decide +kernel
theorem dX11_book_80 : decode cX11_book 80 = .ok (.iinc 4 1, 3) := by decide +kernel
theorem dX11_book_83 : decode cX11_book 83 = .ok (.goto (-40), 3) := by decide +kernel
theorem dX11_book_86 : decode cX11_book 86 = .ok (.aload_n 0, 1) := by decide +kernel
theorem dX11_book_87 : decode cX11_book 87 = .ok (.iconst 0, 1) := by decide +kernel
theorem dX11_book_88 : decode cX11_book 88 = .ok (.aload_n 0, 1) := by decide +kernel
theorem dX11_book_89 : decode cX11_book 89 = .ok (.getfield 16, 3) := by decide +kernel
theorem dX11_book_92 : decode cX11_book 92 = .ok (.invokevirtual 146, 3) := by decide +kernel
theorem dX11_book_95 : decode cX11_book 95 = .ok (.aload_n 0, 1) := by decide +kernel
theorem dX11_book_96 : decode cX11_book 96 = .ok (.getfield 28, 3) := by decide +kernel
theorem dX11_book_99 : decode cX11_book 99 = .ok (.iload_n 1, 1) := by decide +kernel
theorem dX11_book_100 : decode cX11_book 100 = .ok (.iaload, 1) := by decide +kernel
theorem dX11_book_101 : decode cX11_book 101 = .ok (.ireturn, 1) := by decide +kernel
theorem dX11_isSo_0 : decode cX11_isSo 0 = .ok (.iconst 1, 1) := by decide +kernel
theorem dX11_isSo_1 : decode cX11_isSo 1 = .ok (.istore_n 3, 1) := by decide +kernel
theorem dX11_isSo_2 : decode cX11_isSo 2 = .ok (.iconst 0, 1) := by decide +kernel
theorem dX11_isSo_3 : decode cX11_isSo 3 = .ok (.istore 4, 2) := by decide +kernel
theorem dX11_isSo_5 : decode cX11_isSo 5 = .ok (.iload 4, 2) := by decide +kernel
theorem dX11_isSo_7 : decode cX11_isSo 7 = .ok (.aload_n 0, 1) := by decide +kernel
theorem dX11_isSo_8 : decode cX11_isSo 8 = .ok (.getfield 28, 3) := by decide +kernel
theorem dX11_isSo_11 : decode cX11_isSo 11 = .ok (.iload_n 1, 1) := by decide +kernel
theorem dX11_isSo_12 : decode cX11_isSo 12 = .ok (.iaload, 1) := by decide +kernel
theorem dX11_isSo_13 : decode cX11_isSo 13 = .ok (.if_icmp .ge 49, 3) := by decide +kernel
theorem dX11_isSo_16 : decode cX11_isSo 16 = .ok (.iload_n 3, 1) := by decide +kernel
theorem dX11_isSo_17 : decode cX11_isSo 17 = .ok (.ifCond .eq 45, 3) := by decide +kernel
theorem dX11_isSo_20 : decode cX11_isSo 20 = .ok (.aload_n 0, 1) := by decide +kernel
theorem dX11_isSo_21 : decode cX11_isSo 21 = .ok (.getfield 31, 3) := by decide +kernel
theorem dX11_isSo_24 : decode cX11_isSo 24 = .ok (.bipush 40, 2) := by decide +kernel
theorem dX11_isSo_26 : decode cX11_isSo 26 = .ok (.iload_n 1, 1) := by decide +kernel
theorem dX11_isSo_27 : decode cX11_isSo 27 = .ok (.imul, 1) := by decide +kernel
theorem dX11_isSo_28 : decode cX11_isSo 28 = .ok (.iload 4, 2) := by decide +kernel
theorem dX11_isSo_30 : decode cX11_isSo 30 = .ok (.iadd, 1) := by decide +kernel
theorem dX11_isSo_31 : decode cX11_isSo 31 = .ok (.laload, 1) := by decide +kernel
theorem dX11_isSo_32 : decode cX11_isSo 32 = .ok (.aload_n 0, 1) := by decide +kernel
theorem dX11_isSo_33 : decode cX11_isSo 33 = .ok (.iload_n 2, 1) := by decide +kernel
theorem dX11_isSo_34 : decode cX11_isSo 34 = .ok (.iconst 2, 1) := by decide +kernel
theorem dX11_isSo_35 : decode cX11_isSo 35 = .ok (.invokevirtual 61, 3) := by decide +kernel
theorem dX11_isSo_38 : decode cX11_isSo 38 = .ok (.invokestatic 79, 3) := by decide +kernel
theorem dX11_isSo_41 : decode cX11_isSo 41 = .ok (.i2l, 1) := by decide +kernel
theorem dX11_isSo_42 : decode cX11_isSo 42 = .ok (.lcmp, 1) := by decide +kernel
theorem dX11_isSo_43 : decode cX11_isSo 43 = .ok (.ifCond .ne 7, 3) := by decide +kernel
theorem dX11_isSo_46 : decode cX11_isSo 46 = .ok (.iconst 1, 1) := by decide +kernel
theorem dX11_isSo_47 : decode cX11_isSo 47 = .ok (.goto 4, 3) := by decide +kernel
theorem dX11_isSo_50 : decode cX11_isSo 50 = .ok (.iconst 0, 1) := by decide +kernel
theorem dX11_isSo_51 : decode cX11_isSo 51 = .ok (.istore_n 3, 1) := by decide +kernel
theorem dX11_isSo_52 : decode cX11_isSo 52 = .ok (.aload_n 0, 1) := by decide +kernel
theorem dX11_isSo_53 : decode cX11_isSo 53 = .ok (.invokevirtual 127, 3) := by decide +kernel
theorem dX11_isSo_56 : decode cX11_isSo 56 = .ok (.iinc 4 1, 3) := by decide +kernel
theorem dX11_isSo_59 : decode cX11_isSo 59 = .ok (.goto (-54), 3) := by decide +kernel
theorem dX11_isSo_62 : decode cX11_isSo 62 = .ok (.iload_n 3, 1) := by decide +kernel
theorem dX11_isSo_63 : decode cX11_isSo 63 = .ok (.ireturn, 1) := by decide +kernel
theorem dX11_read_0 : decode cX11_read 0 = .ok (.aload_n 0, 1) := by decide +kernel
theorem dX11_read_1 : decode cX11_read 1 = .ok (.iload_n 1, 1) := by decide +kernel
theorem dX11_read_2 : decode cX11_read 2 = .ok (.invokevirtual 256, 3) := by decide +kernel
theorem dX11_read_5 : decode cX11_read 5 = .ok (.istore_n 3, 1) := by decide +kernel
theorem dX11_read_6 : decode cX11_read 6 = .ok (.iload_n 3, 1) := by decide +kernel
theorem dX11_read_7 : decode cX11_read 7 = .ok (.ifCond .eq 9, 3) := by decide +kernel
theorem dX11_read_10 : decode cX11_read 10 = .ok (.aload_n 0, 1) := by decide +kernel
theorem dX11_read_11 : decode cX11_read 11 = .ok (.iload_n 3, 1) := by decide +kernel
theorem dX11_read_12 : decode cX11_read 12 = .ok (.invokevirtual 57, 3) := by decide +kernel
theorem dX11_read_15 : decode cX11_read 15 = .ok (.ireturn, 1) := by decide +kernel
theorem dX11_read_16 : decode cX11_read 16 = .ok (.aload_n 0, 1) := by decide +kernel
theorem dX11_read_17 : decode cX11_read 17 = .ok (.iload_n 2, 1) := by decide +kernel
theorem dX11_read_18 : decode cX11_read 18 = .ok (.invokevirtual 94, 3) := by decide +kernel
theorem dX11_read_21 : decode cX11_read 21 = .ok (.ifCond .ne 10, 3) := by decide +kernel
theorem dX11_read_24 : decode cX11_read 24 = .ok (.aload_n 0, 1) := by decide +kernel
theorem dX11_read_25 : decode cX11_read 25 = .ok (.ldc 44, 2) := by decide +kernel
theorem dX11_read_27 : decode cX11_read 27 = .ok (.invokevirtual 57, 3) := by decide +kernel
theorem dX11_read_30 : decode cX11_read 30 = .ok (.ireturn, 1) := by decide +kernel
theorem dX11_read_31 : decode cX11_read 31 = .ok (.iconst 0, 1) := by decide +kernel
theorem dX11_read_32 : decode cX11_read 32 = .ok (.istore 4, 2) := by decide +kernel
theorem dX11_read_34 : decode cX11_read 34 = .ok (.aload_n 0, 1) := by decide +kernel
theorem dX11_read_35 : decode cX11_read 35 = .ok (.iconst 1, 1) := by decide +kernel
theorem dX11_read_36 : decode cX11_read 36 = .ok (.aload_n 0, 1) := by decide +kernel
theorem dX11_read_37 : decode cX11_read 37 = .ok (.getfield 19, 3) := by decide +kernel
theorem dX11_read_40 : decode cX11_read 40 = .ok (.invokevirtual 146, 3) := by decide +kernel
theorem dX11_read_43 : decode cX11_read 43 = .ok (.iconst 0, 1) := by decide +kernel
theorem dX11_read_44 : decode cX11_read 44 = .ok (.istore 5, 2) := by decide +kernel
theorem dX11_read_46 : decode cX11_read 46 = .ok (.iload 5, 2) := by decide +kernel
theorem dX11_read_48 : decode cX11_read 48 = .ok (.sipush 426, 3) := by decide +kernel
theorem dX11_read_51 : decode cX11_read 51 = .ok (.if_icmp .ge 59, 3) := by decide +kernel
theorem dX11_read_54 : decode cX11_read 54 = .ok (.aload_n 0, 1) := by decide +kernel
theorem dX11_read_55 : decode cX11_read 55 = .ok (.iload_n 2, 1) := by decide +kernel
theorem dX11_read_56 : decode cX11_read 56 = .ok (.iconst 0, 1) := by decide +kernel
theorem dX11_read_57 : decode cX11_read 57 = .ok (.iload 5, 2) := by decide +kernel
theorem dX11_read_59 : decode cX11_read 59 = .ok (.bipush 71, 2) := by decide +kernel
theorem dX11_read_61 : decode cX11_read 61 = .ok (.idiv, 1) := by decide +kernel
theorem dX11_read_62 : decode cX11_read 62 = .ok (.invokevirtual 82, 3) := by decide +kernel
theorem dX11_read_65 : decode cX11_read 65 = .ok (.aload_n 0, 1) := by decide +kernel
theorem dX11_read_66 : decode cX11_read 66 = .ok (.iload_n 2, 1) := by decide +kernel
theorem dX11_read_67 : decode cX11_read 67 = .ok (.iconst 1, 1) := by decide +kernel
theorem dX11_read_68 : decode cX11_read 68 = .ok (.iload 5, 2) := by decide +kernel
theorem dX11_read_70 : decode cX11_read 70 = .ok (.bipush 71, 2) := by decide +kernel
theorem dX11_read_72 : decode cX11_read 72 = .ok (.irem, 1) := by decide +kernel
theorem dX11_read_73 : decode cX11_read 73 = .ok (.invokevirtual 82, 3) := by decide +kernel
theorem dX11_read_76 : decode cX11_read 76 = .ok (.iload 4, 2) := by decide +kernel
theorem dX11_read_78 : decode cX11_read 78 = .ok (.aload_n 0, 1) := by decide +kernel
theorem dX11_read_79 : decode cX11_read 79 = .ok (.iload_n 1, 1) := by decide +kernel
theorem dX11_read_80 : decode cX11_read 80 = .ok (.iload_n 2, 1) := by decide +kernel
theorem dX11_read_81 : decode cX11_read 81 = .ok (.invokevirtual 261, 3) := by decide +kernel
theorem dX11_read_84 : decode cX11_read 84 = .ok (.ifCond .eq 7, 3) := by decide +kernel
theorem dX11_read_87 : decode cX11_read 87 = .ok (.iconst 1, 1) := by decide +kernel
theorem dX11_read_88 : decode cX11_read 88 = .ok (.goto 4, 3) := by decide +kernel
theorem dX11_read_91 : decode cX11_read 91 = .ok (.iconst 0, 1) := by decide +kernel
theorem dX11_read_92 : decode cX11_read 92 = .ok (.iadd, 1) := by decide +kernel
theorem dX11_read_93 : decode cX11_read 93 = .ok (.istore 4, 2) := by decide +kernel
theorem dX11_read_95 : decode cX11_read 95 = .ok (.aload_n 0, 1) := by decide +kernel
theorem dX11_read_96 : decode cX11_read 96 = .ok (.iconst 0, 1) := by decide +kernel
theorem dX11_read_97 : decode cX11_read 97 = .ok (.aload_n 0, 1) := by decide +kernel
theorem dX11_read_98 : decode cX11_read 98 = .ok (.getfield 19, 3) := by decide +kernel
theorem dX11_read_101 : decode cX11_read 101 = .ok (.invokevirtual 146, 3) := by decide +kernel
theorem dX11_read_104 : decode cX11_read 104 = .ok (.iinc 5 1, 3) := by decide +kernel
theorem dX11_read_107 : decode cX11_read 107 = .ok (.goto (-61), 3) := by decide +kernel
theorem dX11_read_110 : decode cX11_read 110 = .ok (.iload 4, 2) := by decide +kernel
theorem dX11_read_112 : decode cX11_read 112 = .ok (.ireturn, 1) := by decide +kernel
theorem dX11_moveAll_0 : decode cX11_moveAll 0 = .ok (.iconst 0, 1) := by decide +kernel
theorem dX11_moveAll_1 : decode cX11_moveAll 1 = .ok (.istore_n 3, 1) := by decide +kernel
theorem dX11_moveAll_2 : decode cX11_moveAll 2 = .ok (.iload_n 3, 1) := by decide +kernel
theorem dX11_moveAll_3 : decode cX11_moveAll 3 = .ok (.bipush 59, 2) := by decide +kernel
theorem dX11_moveAll_5 : decode cX11_moveAll 5 = .ok (.if_icmp .ge 34, 3) := by decide +kernel
theorem dX11_moveAll_8 : decode cX11_moveAll 8 = .ok (.iload_n 1, 1) := by decide +kernel
theorem dX11_moveAll_9 : decode cX11_moveAll 9 = .ok (.ifCond .eq 15, 3) := by decide +kernel
theorem dX11_moveAll_12 : decode cX11_moveAll 12 = .ok (.aload_n 2, 1) := by decide +kernel
theorem dX11_moveAll_13 : decode cX11_moveAll 13 = .ok (.iload_n 3, 1) := by decide +kernel
theorem dX11_moveAll_14 : decode cX11_moveAll 14 = .ok (.aload_n 0, 1) := by decide +kernel
theorem dX11_moveAll_15 : decode cX11_moveAll 15 = .ok (.getfield 7, 3) := by decide +kernel
theorem dX11_moveAll_18 : decode cX11_moveAll 18 = .ok (.iload_n 3, 1) := by decide +kernel
theorem dX11_moveAll_19 : decode cX11_moveAll 19 = .ok (.iaload, 1) := by decide +kernel
theorem dX11_moveAll_20 : decode cX11_moveAll 20 = .ok (.iastore, 1) := by decide +kernel
theorem dX11_moveAll_21 : decode cX11_moveAll 21 = .ok (.goto 12, 3) := by decide +kernel
theorem dX11_moveAll_24 : decode cX11_moveAll 24 = .ok (.aload_n 0, 1) := by decide +kernel
theorem dX11_moveAll_25 : decode cX11_moveAll 25 = .ok (.getfield 7, 3) := by decide +kernel
theorem dX11_moveAll_28 : decode cX11_moveAll 28 = .ok (.iload_n 3, 1) := by decide +kernel
theorem dX11_moveAll_29 : decode cX11_moveAll 29 = .ok (.aload_n 2, 1) := by decide +kernel
theorem dX11_moveAll_30 : decode cX11_moveAll 30 = .ok (.iload_n 3, 1) := by decide +kernel
theorem dX11_moveAll_31 : decode cX11_moveAll 31 = .ok (.iaload, 1) := by decide +kernel
theorem dX11_moveAll_32 : decode cX11_moveAll 32 = .ok (.iastore, 1) := by decide +kernel
theorem dX11_moveAll_33 : decode cX11_moveAll 33 = .ok (.iinc 3 1, 3) := by decide +kernel
theorem dX11_moveAll_36 : decode cX11_moveAll 36 = .ok (.goto (-34), 3) := by decide +kernel
theorem dX11_moveAll_39 : decode cX11_moveAll 39 = .ok (.return_, 1) := by decide +kernel
theorem dX11_image_0 : decode cX11_image 0 = .ok (.aload_n 0, 1) := by decide +kernel
theorem dX11_image_1 : decode cX11_image 1 = .ok (.iconst 1, 1) := by decide +kernel
theorem dX11_image_2 : decode cX11_image 2 = .ok (.aload_n 0, 1) := by decide +kernel
theorem dX11_image_3 : decode cX11_image 3 = .ok (.getfield 38, 3) := by decide +kernel
theorem dX11_image_6 : decode cX11_image 6 = .ok (.invokevirtual 146, 3) := by decide +kernel
theorem dX11_image_9 : decode cX11_image 9 = .ok (.aload_n 0, 1) := by decide +kernel
theorem dX11_image_10 : decode cX11_image 10 = .ok (.iconst 1, 1) := by decide +kernel
theorem dX11_image_11 : decode cX11_image 11 = .ok (.putfield 264, 3) := by decide +kernel
theorem dX11_image_14 : decode cX11_image 14 = .ok (.iconst 1, 1) := by decide +kernel
theorem dX11_image_15 : decode cX11_image 15 = .ok (.ireturn, 1) := by decide +kernel
theorem dX11_undo_0 : decode cX11_undo 0 = .ok (.aload_n 0, 1) := by decide +kernel
theorem dX11_undo_1 : decode cX11_undo 1 = .ok (.getfield 264, 3) := by decide +kernel
theorem dX11_undo_4 : decode cX11_undo 4 = .ok (.ifCond .ne 10, 3) := by decide +kernel
theorem dX11_undo_7 : decode cX11_undo 7 = .ok (.aload_n 0, 1) := by decide +kernel
theorem dX11_undo_8 : decode cX11_undo 8 = .ok (.ldc 150, 2) := by decide +kernel
theorem dX11_undo_10 : decode cX11_undo 10 = .ok (.invokevirtual 57, 3) := by decide +kernel
theorem dX11_undo_13 : decode cX11_undo 13 = .ok (.ireturn, 1) := by decide +kernel
theorem dX11_undo_14 : decode cX11_undo 14 = .ok (.aload_n 0, 1) := by decide +kernel
theorem dX11_undo_15 : decode cX11_undo 15 = .ok (.iconst 0, 1) := by decide +kernel
theorem dX11_undo_16 : decode cX11_undo 16 = .ok (.aload_n 0, 1) := by decide +kernel
theorem dX11_undo_17 : decode cX11_undo 17 = .ok (.getfield 38, 3) := by decide +kernel
theorem dX11_undo_20 : decode cX11_undo 20 = .ok (.invokevirtual 146, 3) := by decide +kernel
theorem dX11_undo_23 : decode cX11_undo 23 = .ok (.aload_n 0, 1) := by decide +kernel
theorem dX11_undo_24 : decode cX11_undo 24 = .ok (.getfield 7, 3) := by decide +kernel
theorem dX11_undo_27 : decode cX11_undo 27 = .ok (.iconst 2, 1) := by decide +kernel
theorem dX11_undo_28 : decode cX11_undo 28 = .ok (.iaload, 1) := by decide +kernel
theorem dX11_undo_29 : decode cX11_undo 29 = .ok (.ireturn, 1) := by decide +kernel
theorem dX11_tear_0 : decode cX11_tear 0 = .ok (.aload_n 0, 1) := by decide +kernel
theorem dX11_tear_1 : decode cX11_tear 1 = .ok (.getfield 264, 3) := by decide +kernel
theorem dX11_tear_4 : decode cX11_tear 4 = .ok (.ifCond .eq 7, 3) := by decide +kernel
theorem dX11_tear_7 : decode cX11_tear 7 = .ok (.iconst 1, 1) := by decide +kernel
theorem dX11_tear_8 : decode cX11_tear 8 = .ok (.goto 4, 3) := by decide +kernel
theorem dX11_tear_11 : decode cX11_tear 11 = .ok (.iconst 0, 1) := by decide +kernel
theorem dX11_tear_12 : decode cX11_tear 12 = .ok (.istore_n 1, 1) := by decide +kernel
theorem dX11_tear_13 : decode cX11_tear 13 = .ok (.aload_n 0, 1) := by decide +kernel
theorem dX11_tear_14 : decode cX11_tear 14 = .ok (.iconst 0, 1) := by decide +kernel
theorem dX11_tear_15 : decode cX11_tear 15 = .ok (.putfield 264, 3) := by decide +kernel
theorem dX11_tear_18 : decode cX11_tear 18 = .ok (.iload_n 1, 1) := by decide +kernel
theorem dX11_tear_19 : decode cX11_tear 19 = .ok (.ireturn, 1) := by decide +kernel
theorem dX11_count_0 : decode cX11_count 0 = .ok (.iload_n 1, 1) := by decide +kernel
theorem dX11_count_1 : decode cX11_count 1 = .ok (.tableswitch 54 0 3 #[31, 38, 43, 49], 31) := by decide +kernel
theorem dX11_count_32 : decode cX11_count 32 = .ok (.aload_n 0, 1) := by decide +kernel
theorem dX11_count_33 : decode cX11_count 33 = .ok (.getfield 7, 3) := by decide +kernel
theorem dX11_count_36 : decode cX11_count 36 = .ok (.iconst 2, 1) := by decide +kernel
theorem dX11_count_37 : decode cX11_count 37 = .ok (.iaload, 1) := by decide +kernel
theorem dX11_count_38 : decode cX11_count 38 = .ok (.ireturn, 1) := by decide +kernel
theorem dX11_count_39 : decode cX11_count 39 = .ok (.aload_n 0, 1) := by decide +kernel
theorem dX11_count_40 : decode cX11_count 40 = .ok (.getfield 159, 3) := by decide +kernel
theorem dX11_count_43 : decode cX11_count 43 = .ok (.ireturn, 1) := by decide +kernel
theorem dX11_count_44 : decode cX11_count 44 = .ok (.aload_n 0, 1) := by decide +kernel
theorem dX11_count_45 : decode cX11_count 45 = .ok (.iconst 1, 1) := by decide +kernel
theorem dX11_count_46 : decode cX11_count 46 = .ok (.invokevirtual 133, 3) := by decide +kernel
theorem dX11_count_49 : decode cX11_count 49 = .ok (.ireturn, 1) := by decide +kernel
theorem dX11_count_50 : decode cX11_count 50 = .ok (.aload_n 0, 1) := by decide +kernel
theorem dX11_count_51 : decode cX11_count 51 = .ok (.invokevirtual 267, 3) := by decide +kernel
theorem dX11_count_54 : decode cX11_count 54 = .ok (.ireturn, 1) := by decide +kernel
theorem dX11_count_55 : decode cX11_count 55 = .ok (.aload_n 0, 1) := by decide +kernel
theorem dX11_count_56 : decode cX11_count 56 = .ok (.ldc 44, 2) := by decide +kernel
theorem dX11_count_58 : decode cX11_count 58 = .ok (.invokevirtual 57, 3) := by decide +kernel
theorem dX11_count_61 : decode cX11_count 61 = .ok (.ireturn, 1) := by decide +kernel
theorem dX11_thingsOf_0 : decode cX11_thingsOf 0 = .ok (.iconst 0, 1) := by decide +kernel
theorem dX11_thingsOf_1 : decode cX11_thingsOf 1 = .ok (.istore_n 1, 1) := by decide +kernel
theorem dX11_thingsOf_2 : decode cX11_thingsOf 2 = .ok (.iconst 0, 1) := by decide +kernel
theorem dX11_thingsOf_3 : decode cX11_thingsOf 3 = .ok (.istore_n 2, 1) := by decide +kernel
theorem dX11_thingsOf_4 : decode cX11_thingsOf 4 = .ok (.iload_n 2, 1) := by decide +kernel
theorem dX11_thingsOf_5 : decode cX11_thingsOf 5 = .ok (.aload_n 0, 1) := by decide +kernel
theorem dX11_thingsOf_6 : decode cX11_thingsOf 6 = .ok (.getfield 7, 3) := by decide +kernel
theorem dX11_thingsOf_9 : decode cX11_thingsOf 9 = .ok (.iconst 2, 1) := by decide +kernel
theorem dX11_thingsOf_10 : decode cX11_thingsOf 10 = .ok (.iaload, 1) := by decide +kernel
theorem dX11_thingsOf_11 : decode cX11_thingsOf 11 = .ok (.if_icmp .ge 21, 3) := by decide +kernel
theorem dX11_thingsOf_14 : decode cX11_thingsOf 14 = .ok (.iload_n 1, 1) := by decide +kernel
theorem dX11_thingsOf_15 : decode cX11_thingsOf 15 = .ok (.aload_n 0, 1) := by decide +kernel
theorem dX11_thingsOf_16 : decode cX11_thingsOf 16 = .ok (.iload_n 2, 1) := by decide +kernel
theorem dX11_thingsOf_17 : decode cX11_thingsOf 17 = .ok (.iconst 2, 1) := by decide +kernel
theorem dX11_thingsOf_18 : decode cX11_thingsOf 18 = .ok (.invokevirtual 61, 3) := by decide +kernel
theorem dX11_thingsOf_21 : decode cX11_thingsOf 21 = .ok (.invokestatic 79, 3) := by decide +kernel
theorem dX11_thingsOf_24 : decode cX11_thingsOf 24 = .ok (.iadd, 1) := by decide +kernel
theorem dX11_thingsOf_25 : decode cX11_thingsOf 25 = .ok (.istore_n 1, 1) := by decide +kernel
theorem dX11_thingsOf_26 : decode cX11_thingsOf 26 = .ok (.iinc 2 1, 3) := by decide +kernel
theorem dX11_thingsOf_29 : decode cX11_thingsOf 29 = .ok (.goto (-25), 3) := by decide +kernel
theorem dX11_thingsOf_32 : decode cX11_thingsOf 32 = .ok (.iload_n 1, 1) := by decide +kernel
theorem dX11_thingsOf_33 : decode cX11_thingsOf 33 = .ok (.ireturn, 1) := by decide +kernel
theorem dX11_status_0 : decode cX11_status 0 = .ok (.iload_n 1, 1) := by decide +kernel
theorem dX11_status_1 : decode cX11_status 1 = .ok (.iconst (-1), 1) := by decide +kernel
theorem dX11_status_2 : decode cX11_status 2 = .ok (.bipush 6, 2) := by decide +kernel
theorem dX11_status_4 : decode cX11_status 4 = .ok (.invokestatic 45, 3) := by decide +kernel
theorem dX11_status_7 : decode cX11_status 7 = .ok (.ifCond .ne 10, 3) := by decide +kernel
theorem dX11_status_10 : decode cX11_status 10 = .ok (.aload_n 0, 1) := by decide +kernel
theorem dX11_status_11 : decode cX11_status 11 = .ok (.ldc 44, 2) := by decide +kernel
theorem dX11_status_13 : decode cX11_status 13 = .ok (.invokevirtual 57, 3) := by decide +kernel
theorem dX11_status_16 : decode cX11_status 16 = .ok (.ireturn, 1) := by decide +kernel
theorem dX11_status_17 : decode cX11_status 17 = .ok (.iconst 0, 1) := by decide +kernel
theorem dX11_status_18 : decode cX11_status 18 = .ok (.istore_n 2, 1) := by decide +kernel
theorem dX11_status_19 : decode cX11_status 19 = .ok (.iconst 0, 1) := by decide +kernel
theorem dX11_status_20 : decode cX11_status 20 = .ok (.istore_n 3, 1) := by decide +kernel
theorem dX11_status_21 : decode cX11_status 21 = .ok (.iload_n 3, 1) := by decide +kernel
theorem dX11_status_22 : decode cX11_status 22 = .ok (.bipush 7, 2) := by decide +kernel
theorem dX11_status_24 : decode cX11_status 24 = .ok (.if_icmp .ge 18, 3) := by decide +kernel
theorem dX11_status_27 : decode cX11_status 27 = .ok (.iload_n 2, 1) := by decide +kernel
theorem dX11_status_28 : decode cX11_status 28 = .ok (.aload_n 0, 1) := by decide +kernel
theorem dX11_status_29 : decode cX11_status 29 = .ok (.getfield 13, 3) := by decide +kernel
theorem dX11_status_32 : decode cX11_status 32 = .ok (.iload_n 3, 1) := by decide +kernel
theorem dX11_status_33 : decode cX11_status 33 = .ok (.iaload, 1) := by decide +kernel
theorem dX11_status_34 : decode cX11_status 34 = .ok (.iadd, 1) := by decide +kernel
theorem dX11_status_35 : decode cX11_status 35 = .ok (.istore_n 2, 1) := by decide +kernel
theorem dX11_status_36 : decode cX11_status 36 = .ok (.iinc 3 1, 3) := by decide +kernel
theorem dX11_status_39 : decode cX11_status 39 = .ok (.goto (-18), 3) := by decide +kernel
theorem dX11_status_42 : decode cX11_status 42 = .ok (.iload_n 1, 1) := by decide +kernel
theorem dX11_status_43 : decode cX11_status 43 = .ok (.ifCond .ge 7, 3) := by decide +kernel
theorem dX11_status_46 : decode cX11_status 46 = .ok (.iload_n 2, 1) := by decide +kernel
theorem dX11_status_47 : decode cX11_status 47 = .ok (.goto 17, 3) := by decide +kernel
theorem dX11_status_50 : decode cX11_status 50 = .ok (.aload_n 0, 1) := by decide +kernel
theorem dX11_status_51 : decode cX11_status 51 = .ok (.getfield 13, 3) := by decide +kernel
theorem dX11_status_54 : decode cX11_status 54 = .ok (.iload_n 1, 1) := by decide +kernel
theorem dX11_status_55 : decode cX11_status 55 = .ok (.ifCond .ge 7, 3) := by decide +kernel
theorem dX11_status_58 : decode cX11_status 58 = .ok (.iconst 0, 1) := by decide +kernel
theorem dX11_status_59 : decode cX11_status 59 = .ok (.goto 4, 3) := by decide +kernel
theorem dX11_status_62 : decode cX11_status 62 = .ok (.iload_n 1, 1) := by decide +kernel
theorem dX11_status_63 : decode cX11_status 63 = .ok (.iaload, 1) := by decide +kernel
theorem dX11_status_64 : decode cX11_status 64 = .ok (.ireturn, 1) := by decide +kernel
