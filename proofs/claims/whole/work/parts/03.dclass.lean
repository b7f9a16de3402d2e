theorem dX0_init_0 : decode cX0_init 0 = .ok (.aload_n 0, 1) := by decide +kernel
theorem dX0_init_1 : decode cX0_init 1 = .ok (.invokespecial 3, 3) := by decide +kernel
theorem dX0_init_4 : decode cX0_init 4 = .ok (.return_, 1) := by decide +kernel
theorem dX0_taken_0 : decode cX0_taken 0 = .ok (.iload_n 1, 1) := by decide +kernel
theorem dX0_taken_1 : decode cX0_taken 1 = .ok (.invokestatic 9, 3) := by decide +kernel
theorem dX0_taken_4 : decode cX0_taken 4 = .ok (.ireturn, 1) := by decide +kernel
theorem dX0_finds_0 : decode cX0_finds 0 = .ok (.aload_n 0, 1) := by decide +kernel
theorem dX0_finds_1 : decode cX0_finds 1 = .ok (.iload_n 1, 1) := by decide +kernel
theorem dX0_finds_2 : decode cX0_finds 2 = .ok (.invokespecial 13, 3) := by decide +kernel
theorem dX0_finds_5 : decode cX0_finds 5 = .ok (.iconst 1, 1) := by decide +kernel
theorem dX0_finds_6 : decode cX0_finds 6 = .ok (.iadd, 1) := by decide +kernel
theorem dX0_finds_7 : decode cX0_finds 7 = .ok (.bipush 16, 2) := by decide +kernel
theorem dX0_finds_9 : decode cX0_finds 9 = .ok (.irem, 1) := by decide +kernel
theorem dX0_finds_10 : decode cX0_finds 10 = .ok (.ireturn, 1) := by decide +kernel
theorem dX1_init_0 : decode cX1_init 0 = .ok (.aload_n 0, 1) := by decide +kernel
theorem dX1_init_1 : decode cX1_init 1 = .ok (.invokespecial 3, 3) := by decide +kernel
theorem dX1_init_4 : decode cX1_init 4 = .ok (.aload_n 0, 1) := by decide +kernel
theorem dX1_init_5 : decode cX1_init 5 = .ok (.bipush 16, 2) := by decide +kernel
theorem dX1_init_7 : decode cX1_init 7 = .ok (.newarray .int, 2) := by decide +kernel
theorem dX1_init_9 : decode cX1_init 9 = .ok (.putfield 9, 3) := by decide +kernel
theorem dX1_init_12 : decode cX1_init 12 = .ok (.aload_n 0, 1) := by decide +kernel
theorem dX1_init_13 : decode cX1_init 13 = .ok (.bipush 8, 2) := by decide +kernel
theorem dX1_init_15 : decode cX1_init 15 = .ok (.newarray .int, 2) := by decide +kernel
theorem dX1_init_17 : decode cX1_init 17 = .ok (.putfield 15, 3) := by decide +kernel
theorem dX1_init_20 : decode cX1_init 20 = .ok (.aload_n 0, 1) := by decide +kernel
theorem dX1_init_21 : decode cX1_init 21 = .ok (.bipush 8, 2) := by decide +kernel
theorem dX1_init_23 : decode cX1_init 23 = .ok (.newarray .int, 2) := by decide +kernel
theorem dX1_init_25 : decode cX1_init 25 = .ok (.putfield 18, 3) := by decide +kernel
theorem dX1_init_28 : decode cX1_init 28 = .ok (.aload_n 0, 1) := by decide +kernel
theorem dX1_init_29 : decode cX1_init 29 = .ok (.bipush 8, 2) := by decide +kernel
theorem dX1_init_31 : decode cX1_init 31 = .ok (.newarray .int, 2) := by decide +kernel
theorem dX1_init_33 : decode cX1_init 33 = .ok (.putfield 21, 3) := by decide +kernel
theorem dX1_init_36 : decode cX1_init 36 = .ok (.aload_n 0, 1) := by decide +kernel
theorem dX1_init_37 : decode cX1_init 37 = .ok (.bipush 8, 2) := by decide +kernel
theorem dX1_init_39 : decode cX1_init 39 = .ok (.newarray .int, 2) := by decide +kernel
theorem dX1_init_41 : decode cX1_init 41 = .ok (.putfield 24, 3) := by decide +kernel
theorem dX1_init_44 : decode cX1_init 44 = .ok (.aload_n 0, 1) := by decide +kernel
theorem dX1_init_45 : decode cX1_init 45 = .ok (.bipush 8, 2) := by decide +kernel
theorem dX1_init_47 : decode cX1_init 47 = .ok (.newarray .int, 2) := by decide +kernel
theorem dX1_init_49 : decode cX1_init 49 = .ok (.putfield 27, 3) := by decide +kernel
theorem dX1_init_52 : decode cX1_init 52 = .ok (.aload_n 0, 1) := by decide +kernel
theorem dX1_init_53 : decode cX1_init 53 = .ok (.aload_n 1, 1) := by decide +kernel
theorem dX1_init_54 : decode cX1_init 54 = .ok (.putfield 30, 3) := by decide +kernel
theorem dX1_init_57 : decode cX1_init 57 = .ok (.iconst 0, 1) := by decide +kernel
theorem dX1_init_58 : decode cX1_init 58 = .ok (.istore_n 2, 1) := by decide +kernel
theorem dX1_init_59 : decode cX1_init 59 = .ok (.iload_n 2, 1) := by decide +kernel
theorem dX1_init_60 : decode cX1_init 60 = .ok (.bipush 16, 2) := by decide +kernel
theorem dX1_init_62 : decode cX1_init 62 = .ok (.if_icmp .ge 16, 3) := by decide +kernel
theorem dX1_init_65 : decode cX1_init 65 = .ok (.aload_n 0, 1) := by decide +kernel
theorem dX1_init_66 : decode cX1_init 66 = .ok (.getfield 9, 3) := by decide +kernel
theorem dX1_init_69 : decode cX1_init 69 = .ok (.iload_n 2, 1) := by decide +kernel
theorem dX1_init_70 : decode cX1_init 70 = .ok (.iload_n 2, 1) := by decide +kernel
theorem dX1_init_71 : decode cX1_init 71 = .ok (.iastore, 1) := by decide +kernel
theorem dX1_init_72 : decode cX1_init 72 = .ok (.iinc 2 1, 3) := by decide +kernel
theorem dX1_init_75 : decode cX1_init 75 = .ok (.goto (-16), 3) := by decide +kernel
theorem dX1_init_78 : decode cX1_init 78 = .ok (.return_, 1) := by decide +kernel
theorem dX1_becomes_0 : decode cX1_becomes 0 = .ok (.aload_n 1, 1) := by decide +kernel
theorem dX1_becomes_1 : decode cX1_becomes 1 = .ok (.getfield 9, 3) := by decide +kernel
theorem dX1_becomes_4 : decode cX1_becomes 4 = .ok (.iconst 0, 1) := by decide +kernel
theorem dX1_becomes_5 : decode cX1_becomes 5 = .ok (.aload_n 0, 1) := by decide +kernel
theorem dX1_becomes_6 : decode cX1_becomes 6 = .ok (.getfield 9, 3) := by decide +kernel
theorem dX1_becomes_9 : decode cX1_becomes 9 = .ok (.iconst 0, 1) := by decide +kernel
theorem dX1_becomes_10 : decode cX1_becomes 10 = .ok (.bipush 16, 2) := by decide +kernel
theorem dX1_becomes_12 : decode cX1_becomes 12 = .ok (.invokestatic 34, 3) := by decide +kernel
theorem dX1_becomes_15 : decode cX1_becomes 15 = .ok (.aload_n 1, 1) := by decide +kernel
theorem dX1_becomes_16 : decode cX1_becomes 16 = .ok (.getfield 15, 3) := by decide +kernel
theorem dX1_becomes_19 : decode cX1_becomes 19 = .ok (.iconst 0, 1) := by decide +kernel
theorem dX1_becomes_20 : decode cX1_becomes 20 = .ok (.aload_n 0, 1) := by decide +kernel
theorem dX1_becomes_21 : decode cX1_becomes 21 = .ok (.getfield 15, 3) := by decide +kernel
theorem dX1_becomes_24 : decode cX1_becomes 24 = .ok (.iconst 0, 1) := by decide +kernel
theorem dX1_becomes_25 : decode cX1_becomes 25 = .ok (.bipush 8, 2) := by decide +kernel
theorem dX1_becomes_27 : decode cX1_becomes 27 = .ok (.invokestatic 34, 3) := by decide +kernel
theorem dX1_becomes_30 : decode cX1_becomes 30 = .ok (.aload_n 1, 1) := by decide +kernel
theorem dX1_becomes_31 : decode cX1_becomes 31 = .ok (.getfield 18, 3) := by decide +kernel
theorem dX1_becomes_34 : decode cX1_becomes 34 = .ok (.iconst 0, 1) := by decide +kernel
theorem dX1_becomes_35 : decode cX1_becomes 35 = .ok (.aload_n 0, 1) := by decide +kernel
theorem dX1_becomes_36 : decode cX1_becomes 36 = .ok (.getfield 18, 3) := by decide +kernel
theorem dX1_becomes_39 : decode cX1_becomes 39 = .ok (.iconst 0, 1) := by decide +kernel
theorem dX1_becomes_40 : decode cX1_becomes 40 = .ok (.bipush 8, 2) := by decide +kernel
theorem dX1_becomes_42 : decode cX1_becomes 42 = .ok (.invokestatic 34, 3) := by decide +kernel
theorem dX1_becomes_45 : decode cX1_becomes 45 = .ok (.aload_n 1, 1) := by decide +kernel
theorem dX1_becomes_46 : decode cX1_becomes 46 = .ok (.getfield 21, 3) := by decide +kernel
theorem dX1_becomes_49 : decode cX1_becomes 49 = .ok (.iconst 0, 1) := by decide +kernel
theorem dX1_becomes_50 : decode cX1_becomes 50 = .ok (.aload_n 0, 1) := by decide +kernel
theorem dX1_becomes_51 : decode cX1_becomes 51 = .ok (.getfield 21, 3) := by decide +kernel
theorem dX1_becomes_54 : decode cX1_becomes 54 = .ok (.iconst 0, 1) := by decide +kernel
theorem dX1_becomes_55 : decode cX1_becomes 55 = .ok (.bipush 8, 2) := by decide +kernel
theorem dX1_becomes_57 : decode cX1_becomes 57 = .ok (.invokestatic 34, 3) := by decide +kernel
theorem dX1_becomes_60 : decode cX1_becomes 60 = .ok (.aload_n 1, 1) := by decide +kernel
theorem dX1_becomes_61 : decode cX1_becomes 61 = .ok (.getfield 24, 3) := by decide +kernel
theorem dX1_becomes_64 : decode cX1_becomes 64 = .ok (.iconst 0, 1) := by decide +kernel
theorem dX1_becomes_65 : decode cX1_becomes 65 = .ok (.aload_n 0, 1) := by decide +kernel
theorem dX1_becomes_66 : decode cX1_becomes 66 = .ok (.getfield 24, 3) := by decide +kernel
theorem dX1_becomes_69 : decode cX1_becomes 69 = .ok (.iconst 0, 1) := by decide +kernel
theorem dX1_becomes_70 : decode cX1_becomes 70 = .ok (.bipush 8, 2) := by decide +kernel
theorem dX1_becomes_72 : decode cX1_becomes 72 = .ok (.invokestatic 34, 3) := by decide +kernel
theorem dX1_becomes_75 : decode cX1_becomes 75 = .ok (.aload_n 1, 1) := by decide +kernel
theorem dX1_becomes_76 : decode cX1_becomes 76 = .ok (.getfield 27, 3) := by decide +kernel
theorem dX1_becomes_79 : decode cX1_becomes 79 = .ok (.iconst 0, 1) := by decide +kernel
theorem dX1_becomes_80 : decode cX1_becomes 80 = .ok (.aload_n 0, 1) := by decide +kernel
theorem dX1_becomes_81 : decode cX1_becomes 81 = .ok (.getfield 27, 3) := by decide +kernel
theorem dX1_becomes_84 : decode cX1_becomes 84 = .ok (.iconst 0, 1) := by decide +kernel
theorem dX1_becomes_85 : decode cX1_becomes 85 = .ok (.bipush 8, 2) := by decide +kernel
theorem dX1_becomes_87 : decode cX1_becomes 87 = .ok (.invokestatic 34, 3) := by decide +kernel
theorem dX1_becomes_90 : decode cX1_becomes 90 = .ok (.aload_n 0, 1) := by decide +kernel
theorem dX1_becomes_91 : decode cX1_becomes 91 = .ok (.aload_n 1, 1) := by decide +kernel
theorem dX1_becomes_92 : decode cX1_becomes 92 = .ok (.getfield 40, 3) := by decide +kernel
theorem dX1_becomes_95 : decode cX1_becomes 95 = .ok (.putfield 40, 3) := by decide +kernel
theorem dX1_becomes_98 : decode cX1_becomes 98 = .ok (.aload_n 0, 1) := by decide +kernel
theorem dX1_becomes_99 : decode cX1_becomes 99 = .ok (.aload_n 1, 1) := by decide +kernel
theorem dX1_becomes_100 : decode cX1_becomes 100 = .ok (.getfield 44, 3) := by decide +kernel
theorem dX1_becomes_103 : decode cX1_becomes 103 = .ok (.putfield 44, 3) := by decide +kernel
theorem dX1_becomes_106 : decode cX1_becomes 106 = .ok (.aload_n 0, 1) := by decide +kernel
theorem dX1_becomes_107 : decode cX1_becomes 107 = .ok (.aload_n 1, 1) := by decide +kernel
theorem dX1_becomes_108 : decode cX1_becomes 108 = .ok (.getfield 47, 3) := by decide +kernel
theorem dX1_becomes_111 : decode cX1_becomes 111 = .ok (.putfield 47, 3) := by decide +kernel
theorem dX1_becomes_114 : decode cX1_becomes 114 = .ok (.return_, 1) := by decide +kernel
theorem dX1_addPerson_0 : decode cX1_addPerson 0 = .ok (.aload_n 0, 1) := by decide +kernel
theorem dX1_addPerson_1 : decode cX1_addPerson 1 = .ok (.getfield 40, 3) := by decide +kernel
theorem dX1_addPerson_4 : decode cX1_addPerson 4 = .ok (.istore_n 2, 1) := by decide +kernel
theorem dX1_addPerson_5 : decode cX1_addPerson 5 = .ok (.aload_n 0, 1) := by decide +kernel
theorem dX1_addPerson_6 : decode cX1_addPerson 6 = .ok (.getfield 15, 3) := by decide +kernel
theorem dX1_addPerson_9 : decode cX1_addPerson 9 = .ok (.iload_n 2, 1) := by decide +kernel
theorem dX1_addPerson_10 : decode cX1_addPerson 10 = .ok (.iload_n 1, 1) := by decide +kernel
theorem dX1_addPerson_11 : decode cX1_addPerson 11 = .ok (.iastore, 1) := by decide +kernel
theorem dX1_addPerson_12 : decode cX1_addPerson 12 = .ok (.aload_n 0, 1) := by decide +kernel
theorem dX1_addPerson_13 : decode cX1_addPerson 13 = .ok (.getfield 18, 3) := by decide +kernel
theorem dX1_addPerson_16 : decode cX1_addPerson 16 = .ok (.iload_n 2, 1) := by decide +kernel
theorem dX1_addPerson_17 : decode cX1_addPerson 17 = .ok (.iconst 0, 1) := by decide +kernel
theorem dX1_addPerson_18 : decode cX1_addPerson 18 = .ok (.iastore, 1) := by decide +kernel
theorem dX1_addPerson_19 : decode cX1_addPerson 19 = .ok (.aload_n 0, 1) := by decide +kernel
theorem dX1_addPerson_20 : decode cX1_addPerson 20 = .ok (.getfield 21, 3) := by decide +kernel
theorem dX1_addPerson_23 : decode cX1_addPerson 23 = .ok (.iload_n 2, 1) := by decide +kernel
theorem dX1_addPerson_24 : decode cX1_addPerson 24 = .ok (.iconst 0, 1) := by decide +kernel
theorem dX1_addPerson_25 : decode cX1_addPerson 25 = .ok (.iastore, 1) := by decide +kernel
theorem dX1_addPerson_26 : decode cX1_addPerson 26 = .ok (.aload_n 0, 1) := by decide +kernel
theorem dX1_addPerson_27 : decode cX1_addPerson 27 = .ok (.getfield 24, 3) := by decide +kernel
theorem dX1_addPerson_30 : decode cX1_addPerson 30 = .ok (.iload_n 2, 1) := by decide +kernel
theorem dX1_addPerson_31 : decode cX1_addPerson 31 = .ok (.iconst (-1), 1) := by decide +kernel
theorem dX1_addPerson_32 : decode cX1_addPerson 32 = .ok (.iastore, 1) := by decide +kernel
theorem dX1_addPerson_33 : decode cX1_addPerson 33 = .ok (.aload_n 0, 1) := by decide +kernel
theorem dX1_addPerson_34 : decode cX1_addPerson 34 = .ok (.getfield 27, 3) := by decide +kernel
theorem dX1_addPerson_37 : decode cX1_addPerson 37 = .ok (.iload_n 2, 1) := by decide +kernel
theorem dX1_addPerson_38 : decode cX1_addPerson 38 = .ok (.iconst 0, 1) := by decide +kernel
theorem dX1_addPerson_39 : decode cX1_addPerson 39 = .ok (.iastore, 1) := by decide +kernel
theorem dX1_addPerson_40 : decode cX1_addPerson 40 = .ok (.aload_n 0, 1) := by decide +kernel
theorem dX1_addPerson_41 : decode cX1_addPerson 41 = .ok (.dup, 1) := by decide +kernel
theorem dX1_addPerson_42 : decode cX1_addPerson 42 = .ok (.getfield 40, 3) := by decide +kernel
theorem dX1_addPerson_45 : decode cX1_addPerson 45 = .ok (.iconst 1, 1) := by decide +kernel
theorem dX1_addPerson_46 : decode cX1_addPerson 46 = .ok (.iadd, 1) := by decide +kernel
theorem dX1_addPerson_47 : decode cX1_addPerson 47 = .ok (.putfield 40, 3) := by decide +kernel
theorem dX1_addPerson_50 : decode cX1_addPerson 50 = .ok (.iload_n 2, 1) := by decide +kernel
theorem dX1_addPerson_51 : decode cX1_addPerson 51 = .ok (.ireturn, 1) := by decide +kernel
theorem dX1_has_0 : decode cX1_has 0 = .ok (.aload_n 0, 1) := by decide +kernel
theorem dX1_has_1 : decode cX1_has 1 = .ok (.getfield 21, 3) := by decide +kernel
theorem dX1_has_4 : decode cX1_has 4 = .ok (.iload_n 1, 1) := by decide +kernel
theorem dX1_has_5 : decode cX1_has 5 = .ok (.iaload, 1) := by decide +kernel
theorem dX1_has_6 : decode cX1_has 6 = .ok (.iload_n 2, 1) := by decide +kernel
theorem dX1_has_7 : decode cX1_has 7 = .ok (.invokestatic 50, 3) := by decide +kernel
theorem dX1_has_10 : decode cX1_has 10 = .ok (.ireturn, 1) := by decide +kernel
theorem dX1_shownBy_0 : decode cX1_shownBy 0 = .ok (.aload_n 0, 1) := by decide +kernel
theorem dX1_shownBy_1 : decode cX1_shownBy 1 = .ok (.getfield 30, 3) := by decide +kernel
theorem dX1_shownBy_4 : decode cX1_shownBy 4 = .ok (.aload_n 0, 1) := by decide +kernel
theorem dX1_shownBy_5 : decode cX1_shownBy 5 = .ok (.getfield 15, 3) := by decide +kernel
theorem dX1_shownBy_8 : decode cX1_shownBy 8 = .ok (.iload_n 1, 1) := by decide +kernel
theorem dX1_shownBy_9 : decode cX1_shownBy 9 = .ok (.iaload, 1) := by decide +kernel
theorem dX1_shownBy_10 : decode cX1_shownBy 10 = .ok (.aaload, 1) := by decide +kernel
theorem dX1_shownBy_11 : decode cX1_shownBy 11 = .ok (.aload_n 0, 1) := by decide +kernel
theorem dX1_shownBy_12 : decode cX1_shownBy 12 = .ok (.getfield 21, 3) := by decide +kernel
theorem dX1_shownBy_15 : decode cX1_shownBy 15 = .ok (.iload_n 1, 1) := by decide +kernel
theorem dX1_shownBy_16 : decode cX1_shownBy 16 = .ok (.iaload, 1) := by decide +kernel
theorem dX1_shownBy_17 : decode cX1_shownBy 17 = .ok (.aload_n 0, 1) := by decide +kernel
theorem dX1_shownBy_18 : decode cX1_shownBy 18 = .ok (.getfield 18, 3) := by decide +kernel
theorem dX1_shownBy_21 : decode cX1_shownBy 21 = .ok (.iload_n 1, 1) := by decide +kernel
theorem dX1_shownBy_22 : decode cX1_shownBy 22 = .ok (.iaload, 1) := by decide +kernel
theorem dX1_shownBy_23 : decode cX1_shownBy 23 = .ok (.aload_n 0, 1) := by decide +kernel
theorem dX1_shownBy_24 : decode cX1_shownBy 24 = .ok (.getfield 9, 3) := by decide +kernel
theorem dX1_shownBy_27 : decode cX1_shownBy 27 = .ok (.invokevirtual 54, 3) := by decide +kernel
theorem dX1_shownBy_30 : decode cX1_shownBy 30 = .ok (.ireturn, 1) := by decide +kernel
theorem dX1_takenFrom_0 : decode cX1_takenFrom 0 = .ok (.aload_n 0, 1) := by decide +kernel
theorem dX1_takenFrom_1 : decode cX1_takenFrom 1 = .ok (.getfield 30, 3) := by decide +kernel
theorem dX1_takenFrom_4 : decode cX1_takenFrom 4 = .ok (.aload_n 0, 1) := by decide +kernel
theorem dX1_takenFrom_5 : decode cX1_takenFrom 5 = .ok (.getfield 15, 3) := by decide +kernel
theorem dX1_takenFrom_8 : decode cX1_takenFrom 8 = .ok (.iload_n 1, 1) := by decide +kernel
theorem dX1_takenFrom_9 : decode cX1_takenFrom 9 = .ok (.iaload, 1) := by decide +kernel
theorem dX1_takenFrom_10 : decode cX1_takenFrom 10 = .ok (.aaload, 1) := by decide +kernel
theorem dX1_takenFrom_11 : decode cX1_takenFrom 11 = .ok (.astore_n 2, 1) := by decide +kernel
theorem dX1_takenFrom_12 : decode cX1_takenFrom 12 = .ok (.aload_n 2, 1) := by decide +kernel
theorem dX1_takenFrom_13 : decode cX1_takenFrom 13 = .ok (.aload_n 2, 1) := by decide +kernel
theorem dX1_takenFrom_14 : decode cX1_takenFrom 14 = .ok (.aload_n 0, 1) := by decide +kernel
theorem dX1_takenFrom_15 : decode cX1_takenFrom 15 = .ok (.getfield 21, 3) := by decide +kernel
theorem dX1_takenFrom_18 : decode cX1_takenFrom 18 = .ok (.iload_n 1, 1) := by decide +kernel
theorem dX1_takenFrom_19 : decode cX1_takenFrom 19 = .ok (.iaload, 1) := by decide +kernel
theorem dX1_takenFrom_20 : decode cX1_takenFrom 20 = .ok (.aload_n 0, 1) := by decide +kernel
theorem dX1_takenFrom_21 : decode cX1_takenFrom 21 = .ok (.getfield 18, 3) := by decide +kernel
theorem dX1_takenFrom_24 : decode cX1_takenFrom 24 = .ok (.iload_n 1, 1) := by decide +kernel
theorem dX1_takenFrom_25 : decode cX1_takenFrom 25 = .ok (.iaload, 1) := by decide +kernel
theorem dX1_takenFrom_26 : decode cX1_takenFrom 26 = .ok (.aload_n 0, 1) := by decide +kernel
theorem dX1_takenFrom_27 : decode cX1_takenFrom 27 = .ok (.getfield 9, 3) := by decide +kernel
theorem dX1_takenFrom_30 : decode cX1_takenFrom 30 = .ok (.invokevirtual 54, 3) := by decide +kernel
theorem dX1_takenFrom_33 : decode cX1_takenFrom 33 = .ok (.aload_n 0, 1) := by decide +kernel
theorem dX1_takenFrom_34 : decode cX1_takenFrom 34 = .ok (.getfield 9, 3) := by decide +kernel
theorem dX1_takenFrom_37 : decode cX1_takenFrom 37 = .ok (.invokevirtual 60, 3) := by decide +kernel
theorem dX1_takenFrom_40 : decode cX1_takenFrom 40 = .ok (.ireturn, 1) := by decide +kernel
theorem dX1_foundNextBy_0 : decode cX1_foundNextBy 0 = .ok (.aload_n 0, 1) := by decide +kernel
theorem dX1_foundNextBy_1 : decode cX1_foundNextBy 1 = .ok (.getfield 18, 3) := by decide +kernel
theorem dX1_foundNextBy_4 : decode cX1_foundNextBy 4 = .ok (.iload_n 1, 1) := by decide +kernel
theorem dX1_foundNextBy_5 : decode cX1_foundNextBy 5 = .ok (.iaload, 1) := by decide +kernel
theorem dX1_foundNextBy_6 : decode cX1_foundNextBy 6 = .ok (.bipush 70, 2) := by decide +kernel
theorem dX1_foundNextBy_8 : decode cX1_foundNextBy 8 = .ok (.if_icmp .lt 7, 3) := by decide +kernel
theorem dX1_foundNextBy_11 : decode cX1_foundNextBy 11 = .ok (.iconst (-1), 1) := by decide +kernel
theorem dX1_foundNextBy_12 : decode cX1_foundNextBy 12 = .ok (.goto 25, 3) := by decide +kernel
theorem dX1_foundNextBy_15 : decode cX1_foundNextBy 15 = .ok (.aload_n 0, 1) := by decide +kernel
theorem dX1_foundNextBy_16 : decode cX1_foundNextBy 16 = .ok (.getfield 30, 3) := by decide +kernel
theorem dX1_foundNextBy_19 : decode cX1_foundNextBy 19 = .ok (.aload_n 0, 1) := by decide +kernel
theorem dX1_foundNextBy_20 : decode cX1_foundNextBy 20 = .ok (.getfield 15, 3) := by decide +kernel
theorem dX1_foundNextBy_23 : decode cX1_foundNextBy 23 = .ok (.iload_n 1, 1) := by decide +kernel
theorem dX1_foundNextBy_24 : decode cX1_foundNextBy 24 = .ok (.iaload, 1) := by decide +kernel
theorem dX1_foundNextBy_25 : decode cX1_foundNextBy 25 = .ok (.aaload, 1) := by decide +kernel
theorem dX1_foundNextBy_26 : decode cX1_foundNextBy 26 = .ok (.aload_n 0, 1) := by decide +kernel
theorem dX1_foundNextBy_27 : decode cX1_foundNextBy 27 = .ok (.getfield 18, 3) := by decide +kernel
theorem dX1_foundNextBy_30 : decode cX1_foundNextBy 30 = .ok (.iload_n 1, 1) := by decide +kernel
theorem dX1_foundNextBy_31 : decode cX1_foundNextBy 31 = .ok (.iaload, 1) := by decide +kernel
theorem dX1_foundNextBy_32 : decode cX1_foundNextBy 32 = .ok (.iconst 1, 1) := by decide +kernel
theorem dX1_foundNextBy_33 : decode cX1_foundNextBy 33 = .ok (.iadd, 1) := by decide +kernel
theorem dX1_foundNextBy_34 : decode cX1_foundNextBy 34 = .ok (.invokevirtual 64, 3) := by decide +kernel
theorem dX1_foundNextBy_37 : decode cX1_foundNextBy 37 = .ok (.ireturn, 1) := by decide +kernel
theorem dX1_holdBorder_0 : decode cX1_holdBorder 0 = .ok (.aload_n 0, 1) := by decide +kernel
theorem dX1_holdBorder_1 : decode cX1_holdBorder 1 = .ok (.iload_n 1, 1) := by decide +kernel
theorem dX1_holdBorder_2 : decode cX1_holdBorder 2 = .ok (.invokevirtual 68, 3) := by decide +kernel
theorem dX1_holdBorder_5 : decode cX1_holdBorder 5 = .ok (.istore_n 2, 1) := by decide +kernel
theorem dX1_holdBorder_6 : decode cX1_holdBorder 6 = .ok (.iload_n 2, 1) := by decide +kernel
theorem dX1_holdBorder_7 : decode cX1_holdBorder 7 = .ok (.ifCond .ge 5, 3) := by decide +kernel
theorem dX1_holdBorder_10 : decode cX1_holdBorder 10 = .ok (.iconst (-1), 1) := by decide +kernel
theorem dX1_holdBorder_11 : decode cX1_holdBorder 11 = .ok (.ireturn, 1) := by decide +kernel
theorem dX1_holdBorder_12 : decode cX1_holdBorder 12 = .ok (.aload_n 0, 1) := by decide +kernel
theorem dX1_holdBorder_13 : decode cX1_holdBorder 13 = .ok (.getfield 21, 3) := by decide +kernel
theorem dX1_holdBorder_16 : decode cX1_holdBorder 16 = .ok (.iload_n 1, 1) := by decide +kernel
theorem dX1_holdBorder_17 : decode cX1_holdBorder 17 = .ok (.dup2, 1) := by decide +kernel
theorem dX1_holdBorder_18 : decode cX1_holdBorder 18 = .ok (.iaload, 1) := by decide +kernel
theorem dX1_holdBorder_19 : decode cX1_holdBorder 19 = .ok (.iload_n 2, 1) := by decide +kernel
theorem dX1_holdBorder_20 : decode cX1_holdBorder 20 = .ok (.invokestatic 71, 3) := by decide +kernel
theorem dX1_holdBorder_23 : decode cX1_holdBorder 23 = .ok (.iconst (-1), 1) := by decide +kernel
theorem dX1_holdBorder_24 : decode cX1_holdBorder 24 = .ok (.ixor, 1) := by decide +kernel
theorem dX1_holdBorder_25 : decode cX1_holdBorder 25 = .ok (.iand, 1) := by decide +kernel
theorem dX1_holdBorder_26 : decode cX1_holdBorder 26 = .ok (.iastore, 1) := by decide +kernel
theorem dX1_holdBorder_27 : decode cX1_holdBorder 27 = .ok (.aload_n 0, 1) := by decide +kernel
theorem dX1_holdBorder_28 : decode cX1_holdBorder 28 = .ok (.getfield 27, 3) := by decide +kernel
theorem dX1_holdBorder_31 : decode cX1_holdBorder 31 = .ok (.iload_n 1, 1) := by decide +kernel
theorem dX1_holdBorder_32 : decode cX1_holdBorder 32 = .ok (.aload_n 0, 1) := by decide +kernel
theorem dX1_holdBorder_33 : decode cX1_holdBorder 33 = .ok (.getfield 27, 3) := by decide +kernel
theorem dX1_holdBorder_36 : decode cX1_holdBorder 36 = .ok (.iload_n 1, 1) := by decide +kernel
theorem dX1_holdBorder_37 : decode cX1_holdBorder 37 = .ok (.iaload, 1) := by decide +kernel
theorem dX1_holdBorder_38 : decode cX1_holdBorder 38 = .ok (.iconst 1, 1) := by decide +kernel
theorem dX1_holdBorder_39 : decode cX1_holdBorder 39 = .ok (.iadd, 1) := by decide +kernel
theorem dX1_holdBorder_40 : decode cX1_holdBorder 40 = .ok (.sipush 999, 3) := by decide +kernel
theorem dX1_holdBorder_43 : decode cX1_holdBorder 43 = .ok (.invokestatic 74, 3) := by decide +kernel
theorem dX1_holdBorder_46 : decode cX1_holdBorder 46 = .ok (.iastore, 1) := by decide +kernel
theorem dX1_holdBorder_47 : decode cX1_holdBorder 47 = .ok (.aload_n 0, 1) := by decide +kernel
theorem dX1_holdBorder_48 : decode cX1_holdBorder 48 = .ok (.getfield 24, 3) := by decide +kernel
theorem dX1_holdBorder_51 : decode cX1_holdBorder 51 = .ok (.iload_n 1, 1) := by decide +kernel
theorem dX1_holdBorder_52 : decode cX1_holdBorder 52 = .ok (.iaload, 1) := by decide +kernel
theorem dX1_holdBorder_53 : decode cX1_holdBorder 53 = .ok (.iconst (-1), 1) := by decide +kernel
theorem dX1_holdBorder_54 : decode cX1_holdBorder 54 = .ok (.if_icmp .ne 19, 3) := by decide +kernel
theorem dX1_holdBorder_57 : decode cX1_holdBorder 57 = .ok (.aload_n 0, 1) := by decide +kernel
theorem dX1_holdBorder_58 : decode cX1_holdBorder 58 = .ok (.dup, 1) := by decide +kernel
theorem dX1_holdBorder_59 : decode cX1_holdBorder 59 = .ok (.getfield 44, 3) := by decide +kernel
theorem dX1_holdBorder_62 : decode cX1_holdBorder 62 = .ok (.iload_n 2, 1) := by decide +kernel
theorem dX1_holdBorder_63 : decode cX1_holdBorder 63 = .ok (.invokestatic 71, 3) := by decide +kernel
theorem dX1_holdBorder_66 : decode cX1_holdBorder 66 = .ok (.ior, 1) := by decide +kernel
theorem dX1_holdBorder_67 : decode cX1_holdBorder 67 = .ok (.putfield 44, 3) := by decide +kernel
theorem dX1_holdBorder_70 : decode cX1_holdBorder 70 = .ok (.goto 21, 3) := by decide +kernel
theorem dX1_holdBorder_73 : decode cX1_holdBorder 73 = .ok (.aload_n 0, 1) := by decide +kernel
theorem dX1_holdBorder_74 : decode cX1_holdBorder 74 = .ok (.getfield 21, 3) := by decide +kernel
theorem dX1_holdBorder_77 : decode cX1_holdBorder 77 = .ok (.aload_n 0, 1) := by decide +kernel
theorem dX1_holdBorder_78 : decode cX1_holdBorder 78 = .ok (.getfield 24, 3) := by decide +kernel
theorem dX1_holdBorder_81 : decode cX1_holdBorder 81 = .ok (.iload_n 1, 1) := by decide +kernel
theorem dX1_holdBorder_82 : decode cX1_holdBorder 82 = .ok (.iaload, 1) := by decide +kernel
theorem dX1_holdBorder_83 : decode cX1_holdBorder 83 = .ok (.dup2, 1) := by decide +kernel
theorem dX1_holdBorder_84 : decode cX1_holdBorder 84 = .ok (.iaload, 1) := by decide +kernel
theorem dX1_holdBorder_85 : decode cX1_holdBorder 85 = .ok (.iload_n 2, 1) := by decide +kernel
theorem dX1_holdBorder_86 : decode cX1_holdBorder 86 = .ok (.invokestatic 71, 3) := by decide +kernel
theorem dX1_holdBorder_89 : decode cX1_holdBorder 89 = .ok (.ior, 1) := by decide +kernel
theorem dX1_holdBorder_90 : decode cX1_holdBorder 90 = .ok (.iastore, 1) := by decide +kernel
theorem dX1_holdBorder_91 : decode cX1_holdBorder 91 = .ok (.iload_n 2, 1) := by decide +kernel
theorem dX1_holdBorder_92 : decode cX1_holdBorder 92 = .ok (.ireturn, 1) := by decide +kernel
theorem dX1_passYears_0 : decode cX1_passYears 0 = .ok (.iconst 0, 1) := by decide +kernel
theorem dX1_passYears_1 : decode cX1_passYears 1 = .ok (.istore_n 2, 1) := by decide +kernel
theorem dX1_passYears_2 : decode cX1_passYears 2 = .ok (.iload_n 2, 1) := by decide +kernel
theorem dX1_passYears_3 : decode cX1_passYears 3 = .ok (.iload_n 1, 1) := by decide +kernel
theorem dX1_passYears_4 : decode cX1_passYears 4 = .ok (.if_icmp .ge 109, 3) := by decide +kernel
theorem dX1_passYears_7 : decode cX1_passYears 7 = .ok (.iconst 0, 1) := by decide +kernel
theorem dX1_passYears_8 : decode cX1_passYears 8 = .ok (.istore_n 3, 1) := by decide +kernel
theorem dX1_passYears_9 : decode cX1_passYears 9 = .ok (.iload_n 3, 1) := by decide +kernel
theorem dX1_passYears_10 : decode cX1_passYears 10 = .ok (.aload_n 0, 1) := by decide +kernel
theorem dX1_passYears_11 : decode cX1_passYears 11 = .ok (.getfield 40, 3) := by decide +kernel
theorem dX1_passYears_14 : decode cX1_passYears 14 = .ok (.if_icmp .ge 83, 3) := by decide +kernel
theorem dX1_passYears_17 : decode cX1_passYears 17 = .ok (.aload_n 0, 1) := by decide +kernel
theorem dX1_passYears_18 : decode cX1_passYears 18 = .ok (.getfield 18, 3) := by decide +kernel
theorem dX1_passYears_21 : decode cX1_passYears 21 = .ok (.iload_n 3, 1) := by decide +kernel
theorem dX1_passYears_22 : decode cX1_passYears 22 = .ok (.iaload, 1) := by decide +kernel
theorem dX1_passYears_23 : decode cX1_passYears 23 = .ok (.bipush 70, 2) := by decide +kernel
theorem dX1_passYears_25 : decode cX1_passYears 25 = .ok (.if_icmp .lt 6, 3) := by decide +kernel
theorem dX1_passYears_28 : decode cX1_passYears 28 = .ok (.goto 63, 3) := by decide +kernel
theorem dX1_passYears_31 : decode cX1_passYears 31 = .ok (.aload_n 0, 1) := by decide +kernel
theorem dX1_passYears_32 : decode cX1_passYears 32 = .ok (.getfield 18, 3) := by decide +kernel
theorem dX1_passYears_35 : decode cX1_passYears 35 = .ok (.iload_n 3, 1) := by decide +kernel
theorem dX1_passYears_36 : decode cX1_passYears 36 = .ok (.dup2, 1) := by decide +kernel
theorem dX1_passYears_37 : decode cX1_passYears 37 = .ok (.iaload, 1) := by decide +kernel
theorem dX1_passYears_38 : decode cX1_passYears 38 = .ok (.iconst 1, 1) := by decide +kernel
theorem dX1_passYears_39 : decode cX1_passYears 39 = .ok (.iadd, 1) := by decide +kernel
theorem dX1_passYears_40 : decode cX1_passYears 40 = .ok (.iastore, 1) := by decide +kernel
theorem dX1_passYears_41 : decode cX1_passYears 41 = .ok (.aload_n 0, 1) := by decide +kernel
theorem dX1_passYears_42 : decode cX1_passYears 42 = .ok (.getfield 21, 3) := by decide +kernel
theorem dX1_passYears_45 : decode cX1_passYears 45 = .ok (.iload_n 3, 1) := by decide +kernel
theorem dX1_passYears_46 : decode cX1_passYears 46 = .ok (.dup2, 1) := by decide +kernel
theorem dX1_passYears_47 : decode cX1_passYears 47 = .ok (.iaload, 1) := by decide +kernel
theorem dX1_passYears_48 : decode cX1_passYears 48 = .ok (.aload_n 0, 1) := by decide +kernel
theorem dX1_passYears_49 : decode cX1_passYears 49 = .ok (.getfield 30, 3) := by decide +kernel
theorem dX1_passYears_52 : decode cX1_passYears 52 = .ok (.aload_n 0, 1) := by decide +kernel
theorem dX1_passYears_53 : decode cX1_passYears 53 = .ok (.getfield 15, 3) := by decide +kernel
theorem dX1_passYears_56 : decode cX1_passYears 56 = .ok (.iload_n 3, 1) := by decide +kernel
theorem dX1_passYears_57 : decode cX1_passYears 57 = .ok (.iaload, 1) := by decide +kernel
theorem dX1_passYears_58 : decode cX1_passYears 58 = .ok (.aaload, 1) := by decide +kernel
theorem dX1_passYears_59 : decode cX1_passYears 59 = .ok (.aload_n 0, 1) := by decide +kernel
theorem dX1_passYears_60 : decode cX1_passYears 60 = .ok (.getfield 18, 3) := by decide +kernel
theorem dX1_passYears_63 : decode cX1_passYears 63 = .ok (.iload_n 3, 1) := by decide +kernel
theorem dX1_passYears_64 : decode cX1_passYears 64 = .ok (.iaload, 1) := by decide +kernel
theorem dX1_passYears_65 : decode cX1_passYears 65 = .ok (.invokevirtual 64, 3) := by decide +kernel
theorem dX1_passYears_68 : decode cX1_passYears 68 = .ok (.invokestatic 71, 3) := by decide +kernel
theorem dX1_passYears_71 : decode cX1_passYears 71 = .ok (.ior, 1) := by decide +kernel
theorem dX1_passYears_72 : decode cX1_passYears 72 = .ok (.iastore, 1) := by decide +kernel
theorem dX1_passYears_73 : decode cX1_passYears 73 = .ok (.aload_n 0, 1) := by decide +kernel
theorem dX1_passYears_74 : decode cX1_passYears 74 = .ok (.getfield 18, 3) := by decide +kernel
theorem dX1_passYears_77 : decode cX1_passYears 77 = .ok (.iload_n 3, 1) := by decide +kernel
theorem dX1_passYears_78 : decode cX1_passYears 78 = .ok (.iaload, 1) := by decide +kernel
theorem dX1_passYears_79 : decode cX1_passYears 79 = .ok (.bipush 7, 2) := by decide +kernel
theorem dX1_passYears_81 : decode cX1_passYears 81 = .ok (.irem, 1) := by decide +kernel
theorem dX1_passYears_82 : decode cX1_passYears 82 = .ok (.ifCond .ne 9, 3) := by decide +kernel
theorem dX1_passYears_85 : decode cX1_passYears 85 = .ok (.aload_n 0, 1) := by decide +kernel
theorem dX1_passYears_86 : decode cX1_passYears 86 = .ok (.iload_n 3, 1) := by decide +kernel
theorem dX1_passYears_87 : decode cX1_passYears 87 = .ok (.invokevirtual 80, 3) := by decide +kernel
theorem dX1_passYears_90 : decode cX1_passYears 90 = .ok (.pop, 1) := by decide +kernel
theorem dX1_passYears_91 : decode cX1_passYears 91 = .ok (.iinc 3 1, 3) := by decide +kernel
theorem dX1_passYears_94 : decode cX1_passYears 94 = .ok (.goto (-85), 3) := by decide +kernel
theorem dX1_passYears_97 : decode cX1_passYears 97 = .ok (.aload_n 0, 1) := by decide +kernel
theorem dX1_passYears_98 : decode cX1_passYears 98 = .ok (.dup, 1) := by decide +kernel
theorem dX1_passYears_99 : decode cX1_passYears 99 = .ok (.getfield 47, 3) := by decide +kernel
theorem dX1_passYears_102 : decode cX1_passYears 102 = .ok (.iconst 1, 1) := by decide +kernel
theorem dX1_passYears_103 : decode cX1_passYears 103 = .ok (.iadd, 1) := by decide +kernel
theorem dX1_passYears_104 : decode cX1_passYears 104 = .ok (.putfield 47, 3) := by decide +kernel
theorem dX1_passYears_107 : decode cX1_passYears 107 = .ok (.iinc 2 1, 3) := by decide +kernel
theorem dX1_passYears_110 : decode cX1_passYears 110 = .ok (.goto (-108), 3) := by decide +kernel
theorem dX1_passYears_113 : decode cX1_passYears 113 = .ok (.return_, 1) := by decide +kernel
theorem dX1_pocketWorth_0 : decode cX1_pocketWorth 0 = .ok (.iconst 0, 1) := by decide +kernel
theorem dX1_pocketWorth_1 : decode cX1_pocketWorth 1 = .ok (.istore_n 2, 1) := by decide +kernel
theorem dX1_pocketWorth_2 : decode cX1_pocketWorth 2 = .ok (.iconst 0, 1) := by decide +kernel
theorem dX1_pocketWorth_3 : decode cX1_pocketWorth 3 = .ok (.istore_n 3, 1) := by decide +kernel
theorem dX1_pocketWorth_4 : decode cX1_pocketWorth 4 = .ok (.iload_n 3, 1) := by decide +kernel
theorem dX1_pocketWorth_5 : decode cX1_pocketWorth 5 = .ok (.bipush 16, 2) := by decide +kernel
theorem dX1_pocketWorth_7 : decode cX1_pocketWorth 7 = .ok (.if_icmp .ge 27, 3) := by decide +kernel
theorem dX1_pocketWorth_10 : decode cX1_pocketWorth 10 = .ok (.aload_n 0, 1) := by decide +kernel
theorem dX1_pocketWorth_11 : decode cX1_pocketWorth 11 = .ok (.iload_n 1, 1) := by decide +kernel
theorem dX1_pocketWorth_12 : decode cX1_pocketWorth 12 = .ok (.iload_n 3, 1) := by decide +kernel
theorem dX1_pocketWorth_13 : decode cX1_pocketWorth 13 = .ok (.invokevirtual 83, 3) := by decide +kernel
theorem dX1_pocketWorth_16 : decode cX1_pocketWorth 16 = .ok (.ifCond .eq 12, 3) := by decide +kernel
theorem dX1_pocketWorth_19 : decode cX1_pocketWorth 19 = .ok (.iload_n 2, 1) := by decide +kernel
theorem dX1_pocketWorth_20 : decode cX1_pocketWorth 20 = .ok (.aload_n 0, 1) := by decide +kernel
theorem dX1_pocketWorth_21 : decode cX1_pocketWorth 21 = .ok (.getfield 9, 3) := by decide +kernel
theorem dX1_pocketWorth_24 : decode cX1_pocketWorth 24 = .ok (.iload_n 3, 1) := by decide +kernel
theorem dX1_pocketWorth_25 : decode cX1_pocketWorth 25 = .ok (.iaload, 1) := by decide +kernel
theorem dX1_pocketWorth_26 : decode cX1_pocketWorth 26 = .ok (.iadd, 1) := by decide +kernel
theorem dX1_pocketWorth_27 : decode cX1_pocketWorth 27 = .ok (.istore_n 2, 1) := by decide +kernel
theorem dX1_pocketWorth_28 : decode cX1_pocketWorth 28 = .ok (.iinc 3 1, 3) := by decide +kernel
theorem dX1_pocketWorth_31 : decode cX1_pocketWorth 31 = .ok (.goto (-27), 3) := by decide +kernel
theorem dX1_pocketWorth_34 : decode cX1_pocketWorth 34 = .ok (.iload_n 2, 1) := by decide +kernel
theorem dX1_pocketWorth_35 : decode cX1_pocketWorth 35 = .ok (.ireturn, 1) := by decide +kernel
theorem dX1_worthOfAllPockets_0 : decode cX1_worthOfAllPockets 0 = .ok (.iconst 0, 1) := by decide +kernel
theorem dX1_worthOfAllPockets_1 : decode cX1_worthOfAllPockets 1 = .ok (.istore_n 1, 1) := by decide +kernel
theorem dX1_worthOfAllPockets_2 : decode cX1_worthOfAllPockets 2 = .ok (.iconst 0, 1) := by decide +kernel
theorem dX1_worthOfAllPockets_3 : decode cX1_worthOfAllPockets 3 = .ok (.istore_n 2, 1) := by decide +kernel
theorem dX1_worthOfAllPockets_4 : decode cX1_worthOfAllPockets 4 = .ok (.iload_n 2, 1) := by decide +kernel
theorem dX1_worthOfAllPockets_5 : decode cX1_worthOfAllPockets 5 = .ok (.aload_n 0, 1) := by decide +kernel
theorem dX1_worthOfAllPockets_6 : decode cX1_worthOfAllPockets 6 = .ok (.getfield 40, 3) := by decide +kernel
theorem dX1_worthOfAllPockets_9 : decode cX1_worthOfAllPockets 9 = .ok (.if_icmp .ge 17, 3) := by decide +kernel
theorem dX1_worthOfAllPockets_12 : decode cX1_worthOfAllPockets 12 = .ok (.iload_n 1, 1) := by decide +kernel
theorem dX1_worthOfAllPockets_13 : decode cX1_worthOfAllPockets 13 = .ok (.aload_n 0, 1) := by decide +kernel
theorem dX1_worthOfAllPockets_14 : decode cX1_worthOfAllPockets 14 = .ok (.iload_n 2, 1) := by decide +kernel
theorem dX1_worthOfAllPockets_15 : decode cX1_worthOfAllPockets 15 = .ok (.invokevirtual 86, 3) := by decide +kernel
theorem dX1_worthOfAllPockets_18 : decode cX1_worthOfAllPockets 18 = .ok (.iadd, 1) := by decide +kernel
theorem dX1_worthOfAllPockets_19 : decode cX1_worthOfAllPockets 19 = .ok (.istore_n 1, 1) := by decide +kernel
theorem dX1_worthOfAllPockets_20 : decode cX1_worthOfAllPockets 20 = .ok (.iinc 2 1, 3) := by decide +kernel
theorem dX1_worthOfAllPockets_23 : decode cX1_worthOfAllPockets 23 = .ok (.goto (-19), 3) := by decide +kernel
theorem dX1_worthOfAllPockets_26 : decode cX1_worthOfAllPockets 26 = .ok (.iload_n 1, 1) := by decide +kernel
theorem dX1_worthOfAllPockets_27 : decode cX1_worthOfAllPockets 27 = .ok (.ireturn, 1) := by decide +kernel
theorem dX1_theOldest_0 : decode cX1_theOldest 0 = .ok (.iconst 0, 1) := by decide +kernel
theorem dX1_theOldest_1 : decode cX1_theOldest 1 = .ok (.istore_n 1, 1) := by decide +kernel
theorem dX1_theOldest_2 : decode cX1_theOldest 2 = .ok (.iconst 0, 1) := by decide +kernel
theorem dX1_theOldest_3 : decode cX1_theOldest 3 = .ok (.istore_n 2, 1) := by decide +kernel
theorem dX1_theOldest_4 : decode cX1_theOldest 4 = .ok (.iload_n 2, 1) := by decide +kernel
theorem dX1_theOldest_5 : decode cX1_theOldest 5 = .ok (.aload_n 0, 1) := by decide +kernel
theorem dX1_theOldest_6 : decode cX1_theOldest 6 = .ok (.getfield 40, 3) := by decide +kernel
theorem dX1_theOldest_9 : decode cX1_theOldest 9 = .ok (.if_icmp .ge 26, 3) := by decide +kernel
theorem dX1_theOldest_12 : decode cX1_theOldest 12 = .ok (.aload_n 0, 1) := by decide +kernel
theorem dX1_theOldest_13 : decode cX1_theOldest 13 = .ok (.getfield 18, 3) := by decide +kernel
theorem dX1_theOldest_16 : decode cX1_theOldest 16 = .ok (.iload_n 2, 1) := by decide +kernel
theorem dX1_theOldest_17 : decode cX1_theOldest 17 = .ok (.iaload, 1) := by decide +kernel
theorem dX1_theOldest_18 : decode cX1_theOldest 18 = .ok (.bipush 70, 2) := by decide +kernel
theorem dX1_theOldest_20 : decode cX1_theOldest 20 = .ok (.if_icmp .lt 9, 3) := by decide +kernel
theorem dX1_theOldest_23 : decode cX1_theOldest 23 = .ok (.iload_n 1, 1) := by decide +kernel
theorem dX1_theOldest_24 : decode cX1_theOldest 24 = .ok (.iconst 1, 1) := by decide +kernel
theorem dX1_theOldest_25 : decode cX1_theOldest 25 = .ok (.iload_n 2, 1) := by decide +kernel
theorem dX1_theOldest_26 : decode cX1_theOldest 26 = .ok (.ishl, 1) := by decide +kernel
theorem dX1_theOldest_27 : decode cX1_theOldest 27 = .ok (.ior, 1) := by decide +kernel
theorem dX1_theOldest_28 : decode cX1_theOldest 28 = .ok (.istore_n 1, 1) := by decide +kernel
theorem dX1_theOldest_29 : decode cX1_theOldest 29 = .ok (.iinc 2 1, 3) := by decide +kernel
theorem dX1_theOldest_32 : decode cX1_theOldest 32 = .ok (.goto (-28), 3) := by decide +kernel
theorem dX1_theOldest_35 : decode cX1_theOldest 35 = .ok (.iload_n 1, 1) := by decide +kernel
theorem dX1_theOldest_36 : decode cX1_theOldest 36 = .ok (.ireturn, 1) := by decide +kernel
theorem dX1_ownedThings_0 : decode cX1_ownedThings 0 = .ok (.iconst 0, 1) := by decide +kernel
theorem dX1_ownedThings_1 : decode cX1_ownedThings 1 = .ok (.istore_n 1, 1) := by decide +kernel
theorem dX1_ownedThings_2 : decode cX1_ownedThings 2 = .ok (.iconst 0, 1) := by decide +kernel
theorem dX1_ownedThings_3 : decode cX1_ownedThings 3 = .ok (.istore_n 2, 1) := by decide +kernel
theorem dX1_ownedThings_4 : decode cX1_ownedThings 4 = .ok (.iload_n 2, 1) := by decide +kernel
theorem dX1_ownedThings_5 : decode cX1_ownedThings 5 = .ok (.aload_n 0, 1) := by decide +kernel
theorem dX1_ownedThings_6 : decode cX1_ownedThings 6 = .ok (.getfield 40, 3) := by decide +kernel
theorem dX1_ownedThings_9 : decode cX1_ownedThings 9 = .ok (.if_icmp .ge 18, 3) := by decide +kernel
theorem dX1_ownedThings_12 : decode cX1_ownedThings 12 = .ok (.iload_n 1, 1) := by decide +kernel
theorem dX1_ownedThings_13 : decode cX1_ownedThings 13 = .ok (.aload_n 0, 1) := by decide +kernel
theorem dX1_ownedThings_14 : decode cX1_ownedThings 14 = .ok (.getfield 21, 3) := by decide +kernel
theorem dX1_ownedThings_17 : decode cX1_ownedThings 17 = .ok (.iload_n 2, 1) := by decide +kernel
theorem dX1_ownedThings_18 : decode cX1_ownedThings 18 = .ok (.iaload, 1) := by decide +kernel
theorem dX1_ownedThings_19 : decode cX1_ownedThings 19 = .ok (.ior, 1) := by decide +kernel
theorem dX1_ownedThings_20 : decode cX1_ownedThings 20 = .ok (.istore_n 1, 1) := by decide +kernel
theorem dX1_ownedThings_21 : decode cX1_ownedThings 21 = .ok (.iinc 2 1, 3) := by decide +kernel
theorem dX1_ownedThings_24 : decode cX1_ownedThings 24 = .ok (.goto (-20), 3) := by decide +kernel
theorem dX1_ownedThings_27 : decode cX1_ownedThings 27 = .ok (.iload_n 1, 1) := by decide +kernel
theorem dX1_ownedThings_28 : decode cX1_ownedThings 28 = .ok (.ireturn, 1) := by decide +kernel
theorem dX1_lostByAll_0 : decode cX1_lostByAll 0 = .ok (.iconst 0, 1) := by decide +kernel
theorem dX1_lostByAll_1 : decode cX1_lostByAll 1 = .ok (.istore_n 1, 1) := by decide +kernel
theorem dX1_lostByAll_2 : decode cX1_lostByAll 2 = .ok (.iconst 0, 1) := by decide +kernel
theorem dX1_lostByAll_3 : decode cX1_lostByAll 3 = .ok (.istore_n 2, 1) := by decide +kernel
theorem dX1_lostByAll_4 : decode cX1_lostByAll 4 = .ok (.iload_n 2, 1) := by decide +kernel
theorem dX1_lostByAll_5 : decode cX1_lostByAll 5 = .ok (.aload_n 0, 1) := by decide +kernel
theorem dX1_lostByAll_6 : decode cX1_lostByAll 6 = .ok (.getfield 40, 3) := by decide +kernel
theorem dX1_lostByAll_9 : decode cX1_lostByAll 9 = .ok (.if_icmp .ge 18, 3) := by decide +kernel
theorem dX1_lostByAll_12 : decode cX1_lostByAll 12 = .ok (.iload_n 1, 1) := by decide +kernel
theorem dX1_lostByAll_13 : decode cX1_lostByAll 13 = .ok (.aload_n 0, 1) := by decide +kernel
theorem dX1_lostByAll_14 : decode cX1_lostByAll 14 = .ok (.getfield 27, 3) := by decide +kernel
theorem dX1_lostByAll_17 : decode cX1_lostByAll 17 = .ok (.iload_n 2, 1) := by decide +kernel
theorem dX1_lostByAll_18 : decode cX1_lostByAll 18 = .ok (.iaload, 1) := by decide +kernel
theorem dX1_lostByAll_19 : decode cX1_lostByAll 19 = .ok (.iadd, 1) := by decide +kernel
theorem dX1_lostByAll_20 : decode cX1_lostByAll 20 = .ok (.istore_n 1, 1) := by decide +kernel
theorem dX1_lostByAll_21 : decode cX1_lostByAll 21 = .ok (.iinc 2 1, 3) := by decide +kernel
theorem dX1_lostByAll_24 : decode cX1_lostByAll 24 = .ok (.goto (-20), 3) := by decide +kernel
theorem dX1_lostByAll_27 : decode cX1_lostByAll 27 = .ok (.iload_n 1, 1) := by decide +kernel
theorem dX1_lostByAll_28 : decode cX1_lostByAll 28 = .ok (.ireturn, 1) := by decide +kernel
theorem dX1_agesOfAll_0 : decode cX1_agesOfAll 0 = .ok (.iconst 0, 1) := by decide +kernel
theorem dX1_agesOfAll_1 : decode cX1_agesOfAll 1 = .ok (.istore_n 1, 1) := by decide +kernel
theorem dX1_agesOfAll_2 : decode cX1_agesOfAll 2 = .ok (.iconst 0, 1) := by decide +kernel
theorem dX1_agesOfAll_3 : decode cX1_agesOfAll 3 = .ok (.istore_n 2, 1) := by decide +kernel
theorem dX1_agesOfAll_4 : decode cX1_agesOfAll 4 = .ok (.iload_n 2, 1) := by decide +kernel
theorem dX1_agesOfAll_5 : decode cX1_agesOfAll 5 = .ok (.aload_n 0, 1) := by decide +kernel
theorem dX1_agesOfAll_6 : decode cX1_agesOfAll 6 = .ok (.getfield 40, 3) := by decide +kernel
theorem dX1_agesOfAll_9 : decode cX1_agesOfAll 9 = .ok (.if_icmp .ge 18, 3) := by decide +kernel
theorem dX1_agesOfAll_12 : decode cX1_agesOfAll 12 = .ok (.iload_n 1, 1) := by decide +kernel
theorem dX1_agesOfAll_13 : decode cX1_agesOfAll 13 = .ok (.aload_n 0, 1) := by decide +kernel
theorem dX1_agesOfAll_14 : decode cX1_agesOfAll 14 = .ok (.getfield 18, 3) := by decide +kernel
theorem dX1_agesOfAll_17 : decode cX1_agesOfAll 17 = .ok (.iload_n 2, 1) := by decide +kernel
theorem dX1_agesOfAll_18 : decode cX1_agesOfAll 18 = .ok (.iaload, 1) := by decide +kernel
theorem dX1_agesOfAll_19 : decode cX1_agesOfAll 19 = .ok (.iadd, 1) := by decide +kernel
theorem dX1_agesOfAll_20 : decode cX1_agesOfAll 20 = .ok (.istore_n 1, 1) := by decide +kernel
theorem dX1_agesOfAll_21 : decode cX1_agesOfAll 21 = .ok (.iinc 2 1, 3) := by decide +kernel
theorem dX1_agesOfAll_24 : decode cX1_agesOfAll 24 = .ok (.goto (-20), 3) := by decide +kernel
theorem dX1_agesOfAll_27 : decode cX1_agesOfAll 27 = .ok (.iload_n 1, 1) := by decide +kernel
theorem dX1_agesOfAll_28 : decode cX1_agesOfAll 28 = .ok (.ireturn, 1) := by decide +kernel
theorem dX1_thingsInPockets_0 : decode cX1_thingsInPockets 0 = .ok (.iconst 0, 1) := by decide +kernel
theorem dX1_thingsInPockets_1 : decode cX1_thingsInPockets 1 = .ok (.istore_n 1, 1) := by decide +kernel
theorem dX1_thingsInPockets_2 : decode cX1_thingsInPockets 2 = .ok (.iconst 0, 1) := by decide +kernel
theorem dX1_thingsInPockets_3 : decode cX1_thingsInPockets 3 = .ok (.istore_n 2, 1) := by decide +kernel
theorem dX1_thingsInPockets_4 : decode cX1_thingsInPockets 4 = .ok (.iload_n 2, 1) := by decide +kernel
theorem dX1_thingsInPockets_5 : decode cX1_thingsInPockets 5 = .ok (.aload_n 0, 1) := by decide +kernel
theorem dX1_thingsInPockets_6 : decode cX1_thingsInPockets 6 = .ok (.getfield 40, 3) := by decide +kernel
theorem dX1_thingsInPockets_9 : decode cX1_thingsInPockets 9 = .ok (.if_icmp .ge 21, 3) := by decide +kernel
theorem dX1_thingsInPockets_12 : decode cX1_thingsInPockets 12 = .ok (.iload_n 1, 1) := by decide +kernel
theorem dX1_thingsInPockets_13 : decode cX1_thingsInPockets 13 = .ok (.aload_n 0, 1) := by decide +kernel
theorem dX1_thingsInPockets_14 : decode cX1_thingsInPockets 14 = .ok (.getfield 21, 3) := by decide +kernel
theorem dX1_thingsInPockets_17 : decode cX1_thingsInPockets 17 = .ok (.iload_n 2, 1) := by decide +kernel
theorem dX1_thingsInPockets_18 : decode cX1_thingsInPockets 18 = .ok (.iaload, 1) := by decide +kernel
theorem dX1_thingsInPockets_19 : decode cX1_thingsInPockets 19 = .ok (.invokestatic 89, 3) := by decide +kernel
theorem dX1_thingsInPockets_22 : decode cX1_thingsInPockets 22 = .ok (.iadd, 1) := by decide +kernel
theorem dX1_thingsInPockets_23 : decode cX1_thingsInPockets 23 = .ok (.istore_n 1, 1) := by decide +kernel
theorem dX1_thingsInPockets_24 : decode cX1_thingsInPockets 24 = .ok (.iinc 2 1, 3) := by decide +kernel
theorem dX1_thingsInPockets_27 : decode cX1_thingsInPockets 27 = .ok (.goto (-23), 3) := by decide +kernel
theorem dX1_thingsInPockets_30 : decode cX1_thingsInPockets 30 = .ok (.iload_n 1, 1) := by decide +kernel
theorem dX1_thingsInPockets_31 : decode cX1_thingsInPockets 31 = .ok (.ireturn, 1) := by decide +kernel
theorem dX2_init_0 : decode cX2_init 0 = .ok (.aload_n 0, 1) := by decide +kernel
theorem dX2_init_1 : decode cX2_init 1 = .ok (.invokespecial 1, 3) := by decide +kernel
theorem dX2_init_4 : decode cX2_init 4 = .ok (.return_, 1) := by decide +kernel
theorem dX2_shows_0 : decode cX2_shows 0 = .ok (.aload_n 0, 1) := by decide +kernel
theorem dX2_shows_1 : decode cX2_shows 1 = .ok (.iload_n 1, 1) := by decide +kernel
theorem dX2_shows_2 : decode cX2_shows 2 = .ok (.iload_n 2, 1) := by decide +kernel
theorem dX2_shows_3 : decode cX2_shows 3 = .ok (.aload_n 3, 1) := by decide +kernel
theorem dX2_shows_4 : decode cX2_shows 4 = .ok (.invokespecial 7, 3) := by decide +kernel
theorem dX2_shows_7 : decode cX2_shows 7 = .ok (.istore 4, 2) := by decide +kernel
theorem dX2_shows_9 : decode cX2_shows 9 = .ok (.iload 4, 2) := by decide +kernel
theorem dX2_shows_11 : decode cX2_shows 11 = .ok (.iload 4, 2) := by decide +kernel
theorem dX2_shows_13 : decode cX2_shows 13 = .ok (.aload_n 3, 1) := by decide +kernel
theorem dX2_shows_14 : decode cX2_shows 14 = .ok (.invokestatic 11, 3) := by decide +kernel
theorem dX2_shows_17 : decode cX2_shows 17 = .ok (.invokestatic 17, 3) := by decide +kernel
theorem dX2_shows_20 : decode cX2_shows 20 = .ok (.iconst (-1), 1) := by decide +kernel
theorem dX2_shows_21 : decode cX2_shows 21 = .ok (.ixor, 1) := by decide +kernel
theorem dX2_shows_22 : decode cX2_shows 22 = .ok (.iand, 1) := by decide +kernel
theorem dX2_shows_23 : decode cX2_shows 23 = .ok (.ireturn, 1) := by decide +kernel
theorem dX3_init_0 : decode cX3_init 0 = .ok (.aload_n 0, 1) := by decide +kernel
theorem dX3_init_1 : decode cX3_init 1 = .ok (.invokespecial 3, 3) := by decide +kernel
theorem dX3_init_4 : decode cX3_init 4 = .ok (.return_, 1) := by decide +kernel
theorem dX3_shows_0 : decode cX3_shows 0 = .ok (.iload_n 1, 1) := by decide +kernel
theorem dX3_shows_1 : decode cX3_shows 1 = .ok (.ireturn, 1) := by decide +kernel
theorem dX3_taken_0 : decode cX3_taken 0 = .ok (.iload_n 1, 1) := by decide +kernel
theorem dX3_taken_1 : decode cX3_taken 1 = .ok (.aload_n 2, 1) := by decide +kernel
theorem dX3_taken_2 : decode cX3_taken 2 = .ok (.invokestatic 9, 3) := by decide +kernel
theorem dX3_taken_5 : decode cX3_taken 5 = .ok (.ireturn, 1) := by decide +kernel
theorem dX3_finds_0 : decode cX3_finds 0 = .ok (.iconst 5, 1) := by decide +kernel
theorem dX3_finds_1 : decode cX3_finds 1 = .ok (.iload_n 1, 1) := by decide +kernel
theorem dX3_finds_2 : decode cX3_finds 2 = .ok (.imul, 1) := by decide +kernel
theorem dX3_finds_3 : decode cX3_finds 3 = .ok (.bipush 16, 2) := by decide +kernel
theorem dX3_finds_5 : decode cX3_finds 5 = .ok (.irem, 1) := by decide +kernel
theorem dX3_finds_6 : decode cX3_finds 6 = .ok (.ireturn, 1) := by decide +kernel
theorem dX4_init_0 : decode cX4_init 0 = .ok (.aload_n 0, 1) := by decide +kernel
theorem dX4_init_1 : decode cX4_init 1 = .ok (.invokespecial 3, 3) := by decide +kernel
theorem dX4_init_4 : decode cX4_init 4 = .ok (.return_, 1) := by decide +kernel
theorem dX4_taken_0 : decode cX4_taken 0 = .ok (.iload_n 1, 1) := by decide +kernel
theorem dX4_taken_1 : decode cX4_taken 1 = .ok (.aload_n 2, 1) := by decide +kernel
theorem dX4_taken_2 : decode cX4_taken 2 = .ok (.invokestatic 9, 3) := by decide +kernel
theorem dX4_taken_5 : decode cX4_taken 5 = .ok (.ireturn, 1) := by decide +kernel
theorem dX4_finds_0 : decode cX4_finds 0 = .ok (.iload_n 1, 1) := by decide +kernel
theorem dX4_finds_1 : decode cX4_finds 1 = .ok (.iconst 2, 1) := by decide +kernel
theorem dX4_finds_2 : decode cX4_finds 2 = .ok (.irem, 1) := by decide +kernel
theorem dX4_finds_3 : decode cX4_finds 3 = .ok (.ifCond .eq 7, 3) := by decide +kernel
theorem dX4_finds_6 : decode cX4_finds 6 = .ok (.iconst (-1), 1) := by decide +kernel
theorem dX4_finds_7 : decode cX4_finds 7 = .ok (.goto 8, 3) := by decide +kernel
theorem dX4_finds_10 : decode cX4_finds 10 = .ok (.aload_n 0, 1) := by decide +kernel
theorem dX4_finds_11 : decode cX4_finds 11 = .ok (.iload_n 1, 1) := by decide +kernel
theorem dX4_finds_12 : decode cX4_finds 12 = .ok (.invokespecial 13, 3) := by decide +kernel
theorem dX4_finds_15 : decode cX4_finds 15 = .ok (.ireturn, 1) := by decide +kernel
theorem dX5_init_0 : decode cX5_init 0 = .ok (.aload_n 0, 1) := by decide +kernel
theorem dX5_init_1 : decode cX5_init 1 = .ok (.invokespecial 3, 3) := by decide +kernel
theorem dX5_init_4 : decode cX5_init 4 = .ok (.aload_n 0, 1) := by decide +kernel
theorem dX5_init_5 : decode cX5_init 5 = .ok (.bipush 40, 2) := by decide +kernel
theorem dX5_init_7 : decode cX5_init 7 = .ok (.newarray .long, 2) := by decide +kernel
theorem dX5_init_9 : decode cX5_init 9 = .ok (.putfield 9, 3) := by decide +kernel
theorem dX5_init_12 : decode cX5_init 12 = .ok (.return_, 1) := by decide +kernel
theorem dX5_begin_0 : decode cX5_begin 0 = .ok (.aload_n 0, 1) := by decide +kernel
theorem dX5_begin_1 : decode cX5_begin 1 = .ok (.iload_n 1, 1) := by decide +kernel
theorem dX5_begin_2 : decode cX5_begin 2 = .ok (.putfield 15, 3) := by decide +kernel
theorem dX5_begin_5 : decode cX5_begin 5 = .ok (.aload_n 0, 1) := by decide +kernel
theorem dX5_begin_6 : decode cX5_begin 6 = .ok (.iload_n 1, 1) := by decide +kernel
theorem dX5_begin_7 : decode cX5_begin 7 = .ok (.ifCond .ne 7, 3) := by decide +kernel
theorem dX5_begin_10 : decode cX5_begin 10 = .ok (.iconst 0, 1) := by decide +kernel
theorem dX5_begin_11 : decode cX5_begin 11 = .ok (.goto 4, 3) := by decide +kernel
theorem dX5_begin_14 : decode cX5_begin 14 = .ok (.iload_n 2, 1) := by decide +kernel
theorem dX5_begin_15 : decode cX5_begin 15 = .ok (.putfield 19, 3) := by decide +kernel
theorem dX5_begin_18 : decode cX5_begin 18 = .ok (.aload_n 0, 1) := by decide +kernel
theorem dX5_begin_19 : decode cX5_begin 19 = .ok (.getfield 9, 3) := by decide +kernel
theorem dX5_begin_22 : decode cX5_begin 22 = .ok (.lconst 0, 1) := by decide +kernel
theorem dX5_begin_23 : decode cX5_begin 23 = .ok (.invokestatic 22, 3) := by decide +kernel
theorem dX5_begin_26 : decode cX5_begin 26 = .ok (.return_, 1) := by decide +kernel
theorem dX5_isMissing_0 : decode cX5_isMissing 0 = .ok (.aload_n 0, 1) := by decide +kernel
theorem dX5_isMissing_1 : decode cX5_isMissing 1 = .ok (.getfield 15, 3) := by decide +kernel
theorem dX5_isMissing_4 : decode cX5_isMissing 4 = .ok (.ifCond .ne 7, 3) := by decide +kernel
theorem dX5_isMissing_7 : decode cX5_isMissing 7 = .ok (.iconst 1, 1) := by decide +kernel
theorem dX5_isMissing_8 : decode cX5_isMissing 8 = .ok (.goto 4, 3) := by decide +kernel
theorem dX5_isMissing_11 : decode cX5_isMissing 11 = .ok (.iconst 0, 1) := by decide +kernel
theorem dX5_isMissing_12 : decode cX5_isMissing 12 = .ok (.ireturn, 1) := by decide +kernel
theorem dX5_put_0 : decode cX5_put 0 = .ok (.aload_n 0, 1) := by decide +kernel
theorem dX5_put_1 : decode cX5_put 1 = .ok (.getfield 15, 3) := by decide +kernel
theorem dX5_put_4 : decode cX5_put 4 = .ok (.bipush 8, 2) := by decide +kernel
theorem dX5_put_6 : decode cX5_put 6 = .ok (.if_icmp .ne 16, 3) := by decide +kernel
theorem dX5_put_9 : decode cX5_put 9 = .ok (.aload_n 0, 1) := by decide +kernel
theorem dX5_put_10 : decode cX5_put 10 = .ok (.getfield 9, 3) := by decide +kernel
theorem dX5_put_13 : decode cX5_put 13 = .ok (.iload_n 1, 1) := by decide +kernel
theorem dX5_put_14 : decode cX5_put 14 = .ok (.lload_n 2, 1) := by decide +kernel
theorem dX5_put_15 : decode cX5_put 15 = .ok (.l2i, 1) := by decide +kernel
theorem dX5_put_16 : decode cX5_put 16 = .ok (.i2b, 1) := by decide +kernel
theorem dX5_put_17 : decode cX5_put 17 = .ok (.i2l, 1) := by decide +kernel
theorem dX5_put_18 : decode cX5_put 18 = .ok (.lastore, 1) := by decide +kernel
theorem dX5_put_19 : decode cX5_put 19 = .ok (.goto 32, 3) := by decide +kernel
theorem dX5_put_22 : decode cX5_put 22 = .ok (.aload_n 0, 1) := by decide +kernel
theorem dX5_put_23 : decode cX5_put 23 = .ok (.getfield 15, 3) := by decide +kernel
theorem dX5_put_26 : decode cX5_put 26 = .ok (.bipush 16, 2) := by decide +kernel
theorem dX5_put_28 : decode cX5_put 28 = .ok (.if_icmp .ne 16, 3) := by decide +kernel
theorem dX5_put_31 : decode cX5_put 31 = .ok (.aload_n 0, 1) := by decide +kernel
theorem dX5_put_32 : decode cX5_put 32 = .ok (.getfield 9, 3) := by decide +kernel
theorem dX5_put_35 : decode cX5_put 35 = .ok (.iload_n 1, 1) := by decide +kernel
theorem dX5_put_36 : decode cX5_put 36 = .ok (.lload_n 2, 1) := by decide +kernel
theorem dX5_put_37 : decode cX5_put 37 = .ok (.l2i, 1) := by decide +kernel
theorem dX5_put_38 : decode cX5_put 38 = .ok (.i2s, 1) := by decide +kernel
theorem dX5_put_39 : decode cX5_put 39 = .ok (.i2l, 1) := by decide +kernel
theorem dX5_put_40 : decode cX5_put 40 = .ok (.lastore, 1) := by decide +kernel
theorem dX5_put_41 : decode cX5_put 41 = .ok (.goto 10, 3) := by decide +kernel
theorem dX5_put_44 : decode cX5_put 44 = .ok (.aload_n 0, 1) := by decide +kernel
theorem dX5_put_45 : decode cX5_put 45 = .ok (.getfield 9, 3) := by decide +kernel
theorem dX5_put_48 : decode cX5_put 48 = .ok (.iload_n 1, 1) := by decide +kernel
theorem dX5_put_49 : decode cX5_put 49 = .ok (.lload_n 2, 1) := by decide +kernel
theorem dX5_put_50 : decode cX5_put 50 = .ok (.lastore, 1) := by decide +kernel
theorem dX5_put_51 : decode cX5_put 51 = .ok (.return_, 1) := by decide +kernel
theorem dX5_reaches_0 : decode cX5_reaches 0 = .ok (.iload_n 1, 1) := by decide +kernel
theorem dX5_reaches_1 : decode cX5_reaches 1 = .ok (.ifCond .lt 29, 3) := by decide +kernel
theorem dX5_reaches_4 : decode cX5_reaches 4 = .ok (.iload_n 2, 1) := by decide +kernel
theorem dX5_reaches_5 : decode cX5_reaches 5 = .ok (.ifCond .lt 25, 3) := by decide +kernel
theorem dX5_reaches_8 : decode cX5_reaches 8 = .ok (.iload_n 1, 1) := by decide +kernel
theorem dX5_reaches_9 : decode cX5_reaches 9 = .ok (.aload_n 0, 1) := by decide +kernel
theorem dX5_reaches_10 : decode cX5_reaches 10 = .ok (.getfield 19, 3) := by decide +kernel
theorem dX5_reaches_13 : decode cX5_reaches 13 = .ok (.if_icmp .gt 17, 3) := by decide +kernel
theorem dX5_reaches_16 : decode cX5_reaches 16 = .ok (.iload_n 2, 1) := by decide +kernel
theorem dX5_reaches_17 : decode cX5_reaches 17 = .ok (.aload_n 0, 1) := by decide +kernel
theorem dX5_reaches_18 : decode cX5_reaches 18 = .ok (.getfield 19, 3) := by decide +kernel
theorem dX5_reaches_21 : decode cX5_reaches 21 = .ok (.iload_n 1, 1) := by decide +kernel
theorem dX5_reaches_22 : decode cX5_reaches 22 = .ok (.isub, 1) := by decide +kernel
theorem dX5_reaches_23 : decode cX5_reaches 23 = .ok (.if_icmp .gt 7, 3) := by decide +kernel
theorem dX5_reaches_26 : decode cX5_reaches 26 = .ok (.iconst 1, 1) := by decide +kernel
theorem dX5_reaches_27 : decode cX5_reaches 27 = .ok (.goto 4, 3) := by decide +kernel
theorem dX5_reaches_30 : decode cX5_reaches 30 = .ok (.iconst 0, 1) := by decide +kernel
theorem dX5_reaches_31 : decode cX5_reaches 31 = .ok (.ireturn, 1) := by decide +kernel
theorem dX6_init_0 : decode cX6_init 0 = .ok (.aload_n 0, 1) := by decide +kernel
theorem dX6_init_1 : decode cX6_init 1 = .ok (.invokespecial 1, 3) := by decide +kernel
theorem dX6_init_4 : decode cX6_init 4 = .ok (.return_, 1) := by decide +kernel
theorem dX6_shows_0 : decode cX6_shows 0 = .ok (.aload_n 0, 1) := by decide +kernel
theorem dX6_shows_1 : decode cX6_shows 1 = .ok (.iload_n 1, 1) := by decide +kernel
theorem dX6_shows_2 : decode cX6_shows 2 = .ok (.iload_n 2, 1) := by decide +kernel
theorem dX6_shows_3 : decode cX6_shows 3 = .ok (.aload_n 3, 1) := by decide +kernel
theorem dX6_shows_4 : decode cX6_shows 4 = .ok (.invokespecial 7, 3) := by decide +kernel
theorem dX6_shows_7 : decode cX6_shows 7 = .ok (.istore 4, 2) := by decide +kernel
theorem dX6_shows_9 : decode cX6_shows 9 = .ok (.iload 4, 2) := by decide +kernel
theorem dX6_shows_11 : decode cX6_shows 11 = .ok (.iload 4, 2) := by decide +kernel
theorem dX6_shows_13 : decode cX6_shows 13 = .ok (.aload_n 3, 1) := by decide +kernel
theorem dX6_shows_14 : decode cX6_shows 14 = .ok (.invokestatic 11, 3) := by decide +kernel
theorem dX6_shows_17 : decode cX6_shows 17 = .ok (.invokestatic 17, 3) := by decide +kernel
theorem dX6_shows_20 : decode cX6_shows 20 = .ok (.iconst (-1), 1) := by decide +kernel
theorem dX6_shows_21 : decode cX6_shows 21 = .ok (.ixor, 1) := by decide +kernel
theorem dX6_shows_22 : decode cX6_shows 22 = .ok (.iand, 1) := by decide +kernel
theorem dX6_shows_23 : decode cX6_shows 23 = .ok (.ireturn, 1) := by decide +kernel
theorem dX7_init_0 : decode cX7_init 0 = .ok (.aload_n 0, 1) := by decide +kernel
theorem dX7_init_1 : decode cX7_init 1 = .ok (.invokespecial 3, 3) := by decide +kernel
theorem dX7_init_4 : decode cX7_init 4 = .ok (.aload_n 0, 1) := by decide +kernel
theorem dX7_init_5 : decode cX7_init 5 = .ok (.bipush 120, 2) := by decide +kernel
theorem dX7_init_7 : decode cX7_init 7 = .ok (.newarray .int, 2) := by decide +kernel
theorem dX7_init_9 : decode cX7_init 9 = .ok (.putfield 9, 3) := by decide +kernel
theorem dX7_init_12 : decode cX7_init 12 = .ok (.return_, 1) := by decide +kernel
theorem dX7_append_0 : decode cX7_append 0 = .ok (.aload_n 0, 1) := by decide +kernel
theorem dX7_append_1 : decode cX7_append 1 = .ok (.getfield 9, 3) := by decide +kernel
theorem dX7_append_4 : decode cX7_append 4 = .ok (.aload_n 0, 1) := by decide +kernel
theorem dX7_append_5 : decode cX7_append 5 = .ok (.getfield 15, 3) := by decide +kernel
theorem dX7_append_8 : decode cX7_append 8 = .ok (.iload_n 1, 1) := by decide +kernel
theorem dX7_append_9 : decode cX7_append 9 = .ok (.iastore, 1) := by decide +kernel
theorem dX7_append_10 : decode cX7_append 10 = .ok (.aload_n 0, 1) := by decide +kernel
theorem dX7_append_11 : decode cX7_append 11 = .ok (.dup, 1) := by decide +kernel
theorem dX7_append_12 : decode cX7_append 12 = .ok (.getfield 15, 3) := by decide +kernel
theorem dX7_append_15 : decode cX7_append 15 = .ok (.iconst 1, 1) := by decide +kernel
theorem dX7_append_16 : decode cX7_append 16 = .ok (.iadd, 1) := by decide +kernel
theorem dX7_append_17 : decode cX7_append 17 = .ok (.putfield 15, 3) := by decide +kernel
theorem dX7_append_20 : decode cX7_append 20 = .ok (.return_, 1) := by decide +kernel
theorem dX8_init_0 : decode cX8_init 0 = .ok (.aload_n 0, 1) := by decide +kernel
theorem dX8_init_1 : decode cX8_init 1 = .ok (.invokespecial 3, 3) := by decide +kernel
theorem dX8_init_4 : decode cX8_init 4 = .ok (.aload_n 0, 1) := by decide +kernel
theorem dX8_init_5 : decode cX8_init 5 = .ok (.aload_n 1, 1) := by decide +kernel
theorem dX8_init_6 : decode cX8_init 6 = .ok (.putfield 9, 3) := by decide +kernel
theorem dX8_init_9 : decode cX8_init 9 = .ok (.aload_n 0, 1) := by decide +kernel
theorem dX8_init_10 : decode cX8_init 10 = .ok (.aload_n 2, 1) := by decide +kernel
theorem dX8_init_11 : decode cX8_init 11 = .ok (.putfield 15, 3) := by decide +kernel
theorem dX8_init_14 : decode cX8_init 14 = .ok (.return_, 1) := by decide +kernel
theorem dX8_readText_0 : decode cX8_readText 0 = .ok (.aload_n 0, 1) := by decide +kernel
theorem dX8_readText_1 : decode cX8_readText 1 = .ok (.iconst 0, 1) := by decide +kernel
theorem dX8_readText_2 : decode cX8_readText 2 = .ok (.putfield 19, 3) := by decide +kernel
theorem dX8_readText_5 : decode cX8_readText 5 = .ok (.aload_n 0, 1) := by decide +kernel
theorem dX8_readText_6 : decode cX8_readText 6 = .ok (.invokevirtual 23, 3) := by decide +kernel
theorem dX8_readText_9 : decode cX8_readText 9 = .ok (.iconst 1, 1) := by decide +kernel
theorem dX8_readText_10 : decode cX8_readText 10 = .ok (.istore_n 1, 1) := by decide +kernel
theorem dX8_readText_11 : decode cX8_readText 11 = .ok (.iload_n 1, 1) := by decide +kernel
theorem dX8_readText_12 : decode cX8_readText 12 = .ok (.bipush 120, 2) := by decide +kernel
theorem dX8_readText_14 : decode cX8_readText 14 = .ok (.if_icmp .gt 51, 3) := by decide +kernel
theorem dX8_readText_17 : decode cX8_readText 17 = .ok (.aload_n 0, 1) := by decide +kernel
theorem dX8_readText_18 : decode cX8_readText 18 = .ok (.invokevirtual 26, 3) := by decide +kernel
theorem dX8_readText_21 : decode cX8_readText 21 = .ok (.ifCond .ne 10, 3) := by decide +kernel
theorem dX8_readText_24 : decode cX8_readText 24 = .ok (.iconst (-1), 1) := by decide +kernel
theorem dX8_readText_25 : decode cX8_readText 25 = .ok (.aload_n 0, 1) := by decide +kernel
theorem dX8_readText_26 : decode cX8_readText 26 = .ok (.getfield 30, 3) := by decide +kernel
theorem dX8_readText_29 : decode cX8_readText 29 = .ok (.isub, 1) := by decide +kernel
theorem dX8_readText_30 : decode cX8_readText 30 = .ok (.ireturn, 1) := by decide +kernel
theorem dX8_readText_31 : decode cX8_readText 31 = .ok (.aload_n 0, 1) := by decide +kernel
theorem dX8_readText_32 : decode cX8_readText 32 = .ok (.getfield 33, 3) := by decide +kernel
theorem dX8_readText_35 : decode cX8_readText 35 = .ok (.ifCond .ne 5, 3) := by decide +kernel
theorem dX8_readText_38 : decode cX8_readText 38 = .ok (.iload_n 1, 1) := by decide +kernel
theorem dX8_readText_39 : decode cX8_readText 39 = .ok (.ireturn, 1) := by decide +kernel
theorem dX8_readText_40 : decode cX8_readText 40 = .ok (.aload_n 0, 1) := by decide +kernel
theorem dX8_readText_41 : decode cX8_readText 41 = .ok (.getfield 33, 3) := by decide +kernel
theorem dX8_readText_44 : decode cX8_readText 44 = .ok (.iconst 3, 1) := by decide +kernel
theorem dX8_readText_45 : decode cX8_readText 45 = .ok (.if_icmp .eq 10, 3) := by decide +kernel
theorem dX8_readText_48 : decode cX8_readText 48 = .ok (.iconst (-1), 1) := by decide +kernel
theorem dX8_readText_49 : decode cX8_readText 49 = .ok (.aload_n 0, 1) := by decide +kernel
theorem dX8_readText_50 : decode cX8_readText 50 = .ok (.getfield 30, 3) := by decide +kernel
theorem dX8_readText_53 : decode cX8_readText 53 = .ok (.isub, 1) := by decide +kernel
theorem dX8_readText_54 : decode cX8_readText 54 = .ok (.ireturn, 1) := by decide +kernel
theorem dX8_readText_55 : decode cX8_readText 55 = .ok (.aload_n 0, 1) := by decide +kernel
theorem dX8_readText_56 : decode cX8_readText 56 = .ok (.invokevirtual 23, 3) := by decide +kernel
theorem dX8_readText_59 : decode cX8_readText 59 = .ok (.iinc 1 1, 3) := by decide +kernel
theorem dX8_readText_62 : decode cX8_readText 62 = .ok (.goto (-51), 3) := by decide +kernel
theorem dX8_readText_65 : decode cX8_readText 65 = .ok (.iconst (-1), 1) := by decide +kernel
theorem dX8_readText_66 : decode cX8_readText 66 = .ok (.aload_n 0, 1) := by decide +kernel
theorem dX8_readText_67 : decode cX8_readText 67 = .ok (.getfield 30, 3) := by decide +kernel
theorem dX8_readText_70 : decode cX8_readText 70 = .ok (.isub, 1) := by decide +kernel
theorem dX8_readText_71 : decode cX8_readText 71 = .ok (.ireturn, 1) := by decide +kernel
theorem dX8_readItem_0 : decode cX8_readItem 0 = .ok (.aload_n 0, 1) := by decide +kernel
theorem dX8_readItem_1 : decode cX8_readItem 1 = .ok (.invokevirtual 36, 3) := by decide +kernel
theorem dX8_readItem_4 : decode cX8_readItem 4 = .ok (.istore_n 1, 1) := by decide +kernel
theorem dX8_readItem_5 : decode cX8_readItem 5 = .ok (.iload_n 1, 1) := by decide +kernel
theorem dX8_readItem_6 : decode cX8_readItem 6 = .ok (.ifCond .lt 9, 3) := by decide +kernel
theorem dX8_readItem_9 : decode cX8_readItem 9 = .ok (.aload_n 0, 1) := by decide +kernel
theorem dX8_readItem_10 : decode cX8_readItem 10 = .ok (.iload_n 1, 1) := by decide +kernel
theorem dX8_readItem_11 : decode cX8_readItem 11 = .ok (.invokevirtual 40, 3) := by decide +kernel
theorem dX8_readItem_14 : decode cX8_readItem 14 = .ok (.ireturn, 1) := by decide +kernel
theorem dX8_readItem_15 : decode cX8_readItem 15 = .ok (.aload_n 0, 1) := by decide +kernel
theorem dX8_readItem_16 : decode cX8_readItem 16 = .ok (.ldc 44, 2) := by decide +kernel
theorem dX8_readItem_18 : decode cX8_readItem 18 = .ok (.invokevirtual 46, 3) := by decide +kernel
theorem dX8_readItem_21 : decode cX8_readItem 21 = .ok (.ifCond .eq 8, 3) := by decide +kernel
theorem dX8_readItem_24 : decode cX8_readItem 24 = .ok (.aload_n 0, 1) := by decide +kernel
theorem dX8_readItem_25 : decode cX8_readItem 25 = .ok (.invokevirtual 50, 3) := by decide +kernel
theorem dX8_readItem_28 : decode cX8_readItem 28 = .ok (.ireturn, 1) := by decide +kernel
theorem dX8_readItem_29 : decode cX8_readItem 29 = .ok (.aload_n 0, 1) := by decide +kernel
theorem dX8_readItem_30 : decode cX8_readItem 30 = .ok (.ldc 53, 2) := by decide +kernel
theorem dX8_readItem_32 : decode cX8_readItem 32 = .ok (.invokevirtual 46, 3) := by decide +kernel
theorem dX8_readItem_35 : decode cX8_readItem 35 = .ok (.ifCond .eq 8, 3) := by decide +kernel
theorem dX8_readItem_38 : decode cX8_readItem 38 = .ok (.aload_n 0, 1) := by decide +kernel
theorem dX8_readItem_39 : decode cX8_readItem 39 = .ok (.invokevirtual 55, 3) := by decide +kernel
theorem dX8_readItem_42 : decode cX8_readItem 42 = .ok (.ireturn, 1) := by decide +kernel
theorem dX8_readItem_43 : decode cX8_readItem 43 = .ok (.iconst 0, 1) := by decide +kernel
theorem dX8_readItem_44 : decode cX8_readItem 44 = .ok (.ireturn, 1) := by decide +kernel
theorem dX8_readPerson_0 : decode cX8_readPerson 0 = .ok (.aload_n 0, 1) := by decide +kernel
theorem dX8_readPerson_1 : decode cX8_readPerson 1 = .ok (.getfield 15, 3) := by decide +kernel
theorem dX8_readPerson_4 : decode cX8_readPerson 4 = .ok (.getfield 58, 3) := by decide +kernel
theorem dX8_readPerson_7 : decode cX8_readPerson 7 = .ok (.bipush 8, 2) := by decide +kernel
theorem dX8_readPerson_9 : decode cX8_readPerson 9 = .ok (.if_icmp .lt 5, 3) := by decide +kernel
theorem dX8_readPerson_12 : decode cX8_readPerson 12 = .ok (.iconst 0, 1) := by decide +kernel
theorem dX8_readPerson_13 : decode cX8_readPerson 13 = .ok (.ireturn, 1) := by decide +kernel
theorem dX8_readPerson_14 : decode cX8_readPerson 14 = .ok (.aload_n 0, 1) := by decide +kernel
theorem dX8_readPerson_15 : decode cX8_readPerson 15 = .ok (.getfield 15, 3) := by decide +kernel
theorem dX8_readPerson_18 : decode cX8_readPerson 18 = .ok (.iload_n 1, 1) := by decide +kernel
theorem dX8_readPerson_19 : decode cX8_readPerson 19 = .ok (.invokevirtual 63, 3) := by decide +kernel
theorem dX8_readPerson_22 : decode cX8_readPerson 22 = .ok (.istore_n 2, 1) := by decide +kernel
theorem dX8_readPerson_23 : decode cX8_readPerson 23 = .ok (.aload_n 0, 1) := by decide +kernel
theorem dX8_readPerson_24 : decode cX8_readPerson 24 = .ok (.invokevirtual 23, 3) := by decide +kernel
theorem dX8_readPerson_27 : decode cX8_readPerson 27 = .ok (.aload_n 0, 1) := by decide +kernel
theorem dX8_readPerson_28 : decode cX8_readPerson 28 = .ok (.ldc 67, 2) := by decide +kernel
theorem dX8_readPerson_30 : decode cX8_readPerson 30 = .ok (.invokevirtual 46, 3) := by decide +kernel
theorem dX8_readPerson_33 : decode cX8_readPerson 33 = .ok (.ifCond .eq 35, 3) := by decide +kernel
theorem dX8_readPerson_36 : decode cX8_readPerson 36 = .ok (.aload_n 0, 1) := by decide +kernel
theorem dX8_readPerson_37 : decode cX8_readPerson 37 = .ok (.invokevirtual 23, 3) := by decide +kernel
theorem dX8_readPerson_40 : decode cX8_readPerson 40 = .ok (.aload_n 0, 1) := by decide +kernel
theorem dX8_readPerson_41 : decode cX8_readPerson 41 = .ok (.bipush 70, 2) := by decide +kernel
theorem dX8_readPerson_43 : decode cX8_readPerson 43 = .ok (.invokevirtual 69, 3) := by decide +kernel
theorem dX8_readPerson_46 : decode cX8_readPerson 46 = .ok (.ifCond .ne 5, 3) := by decide +kernel
theorem dX8_readPerson_49 : decode cX8_readPerson 49 = .ok (.iconst 0, 1) := by decide +kernel
theorem dX8_readPerson_50 : decode cX8_readPerson 50 = .ok (.ireturn, 1) := by decide +kernel
theorem dX8_readPerson_51 : decode cX8_readPerson 51 = .ok (.aload_n 0, 1) := by decide +kernel
theorem dX8_readPerson_52 : decode cX8_readPerson 52 = .ok (.getfield 15, 3) := by decide +kernel
theorem dX8_readPerson_55 : decode cX8_readPerson 55 = .ok (.getfield 72, 3) := by decide +kernel
theorem dX8_readPerson_58 : decode cX8_readPerson 58 = .ok (.iload_n 2, 1) := by decide +kernel
theorem dX8_readPerson_59 : decode cX8_readPerson 59 = .ok (.aload_n 0, 1) := by decide +kernel
theorem dX8_readPerson_60 : decode cX8_readPerson 60 = .ok (.getfield 76, 3) := by decide +kernel
theorem dX8_readPerson_63 : decode cX8_readPerson 63 = .ok (.iastore, 1) := by decide +kernel
theorem dX8_readPerson_64 : decode cX8_readPerson 64 = .ok (.aload_n 0, 1) := by decide +kernel
theorem dX8_readPerson_65 : decode cX8_readPerson 65 = .ok (.invokevirtual 23, 3) := by decide +kernel
theorem dX8_readPerson_68 : decode cX8_readPerson 68 = .ok (.aload_n 0, 1) := by decide +kernel
theorem dX8_readPerson_69 : decode cX8_readPerson 69 = .ok (.ldc 79, 2) := by decide +kernel
theorem dX8_readPerson_71 : decode cX8_readPerson 71 = .ok (.invokevirtual 46, 3) := by decide +kernel
theorem dX8_readPerson_74 : decode cX8_readPerson 74 = .ok (.ifCond .eq 17, 3) := by decide +kernel
theorem dX8_readPerson_77 : decode cX8_readPerson 77 = .ok (.aload_n 0, 1) := by decide +kernel
theorem dX8_readPerson_78 : decode cX8_readPerson 78 = .ok (.invokevirtual 23, 3) := by decide +kernel
theorem dX8_readPerson_81 : decode cX8_readPerson 81 = .ok (.aload_n 0, 1) := by decide +kernel
theorem dX8_readPerson_82 : decode cX8_readPerson 82 = .ok (.iload_n 2, 1) := by decide +kernel
theorem dX8_readPerson_83 : decode cX8_readPerson 83 = .ok (.invokevirtual 81, 3) := by decide +kernel
theorem dX8_readPerson_86 : decode cX8_readPerson 86 = .ok (.ifCond .ne 5, 3) := by decide +kernel
theorem dX8_readPerson_89 : decode cX8_readPerson 89 = .ok (.iconst 0, 1) := by decide +kernel
theorem dX8_readPerson_90 : decode cX8_readPerson 90 = .ok (.ireturn, 1) := by decide +kernel
theorem dX8_readPerson_91 : decode cX8_readPerson 91 = .ok (.aload_n 0, 1) := by decide +kernel
theorem dX8_readPerson_92 : decode cX8_readPerson 92 = .ok (.ldc 84, 2) := by decide +kernel
theorem dX8_readPerson_94 : decode cX8_readPerson 94 = .ok (.invokevirtual 46, 3) := by decide +kernel
theorem dX8_readPerson_97 : decode cX8_readPerson 97 = .ok (.ifCond .eq 34, 3) := by decide +kernel
theorem dX8_readPerson_100 : decode cX8_readPerson 100 = .ok (.aload_n 0, 1) := by decide +kernel
theorem dX8_readPerson_101 : decode cX8_readPerson 101 = .ok (.invokevirtual 23, 3) := by decide +kernel
theorem dX8_readPerson_104 : decode cX8_readPerson 104 = .ok (.aload_n 0, 1) := by decide +kernel
theorem dX8_readPerson_105 : decode cX8_readPerson 105 = .ok (.iload_n 2, 1) := by decide +kernel
theorem dX8_readPerson_106 : decode cX8_readPerson 106 = .ok (.invokevirtual 69, 3) := by decide +kernel
theorem dX8_readPerson_109 : decode cX8_readPerson 109 = .ok (.ifCond .ne 5, 3) := by decide +kernel
theorem dX8_readPerson_112 : decode cX8_readPerson 112 = .ok (.iconst 0, 1) := by decide +kernel
theorem dX8_readPerson_113 : decode cX8_readPerson 113 = .ok (.ireturn, 1) := by decide +kernel
theorem dX8_readPerson_114 : decode cX8_readPerson 114 = .ok (.aload_n 0, 1) := by decide +kernel
theorem dX8_readPerson_115 : decode cX8_readPerson 115 = .ok (.getfield 15, 3) := by decide +kernel
theorem dX8_readPerson_118 : decode cX8_readPerson 118 = .ok (.getfield 86, 3) := by decide +kernel
theorem dX8_readPerson_121 : decode cX8_readPerson 121 = .ok (.iload_n 2, 1) := by decide +kernel
theorem dX8_readPerson_122 : decode cX8_readPerson 122 = .ok (.aload_n 0, 1) := by decide +kernel
theorem dX8_readPerson_123 : decode cX8_readPerson 123 = .ok (.getfield 76, 3) := by decide +kernel
theorem dX8_readPerson_126 : decode cX8_readPerson 126 = .ok (.iastore, 1) := by decide +kernel
theorem dX8_readPerson_127 : decode cX8_readPerson 127 = .ok (.aload_n 0, 1) := by decide +kernel
theorem dX8_readPerson_128 : decode cX8_readPerson 128 = .ok (.invokevirtual 23, 3) := by decide +kernel
theorem dX8_readPerson_131 : decode cX8_readPerson 131 = .ok (.iconst 1, 1) := by decide +kernel
theorem dX8_readPerson_132 : decode cX8_readPerson 132 = .ok (.ireturn, 1) := by decide +kernel
theorem dX8_readThings_0 : decode cX8_readThings 0 = .ok (.iconst 0, 1) := by decide +kernel
theorem dX8_readThings_1 : decode cX8_readThings 1 = .ok (.istore_n 2, 1) := by decide +kernel
theorem dX8_readThings_2 : decode cX8_readThings 2 = .ok (.iload_n 2, 1) := by decide +kernel
theorem dX8_readThings_3 : decode cX8_readThings 3 = .ok (.iconst 4, 1) := by decide +kernel
theorem dX8_readThings_4 : decode cX8_readThings 4 = .ok (.if_icmp .ge 61, 3) := by decide +kernel
theorem dX8_readThings_7 : decode cX8_readThings 7 = .ok (.aload_n 0, 1) := by decide +kernel
theorem dX8_readThings_8 : decode cX8_readThings 8 = .ok (.getfield 33, 3) := by decide +kernel
theorem dX8_readThings_11 : decode cX8_readThings 11 = .ok (.iconst 2, 1) := by decide +kernel
theorem dX8_readThings_12 : decode cX8_readThings 12 = .ok (.if_icmp .eq 13, 3) := by decide +kernel
theorem dX8_readThings_15 : decode cX8_readThings 15 = .ok (.iload_n 2, 1) := by decide +kernel
theorem dX8_readThings_16 : decode cX8_readThings 16 = .ok (.ifCond .le 7, 3) := by decide +kernel
theorem dX8_readThings_19 : decode cX8_readThings 19 = .ok (.iconst 1, 1) := by decide +kernel
theorem dX8_readThings_20 : decode cX8_readThings 20 = .ok (.goto 4, 3) := by decide +kernel
theorem dX8_readThings_23 : decode cX8_readThings 23 = .ok (.iconst 0, 1) := by decide +kernel
theorem dX8_readThings_24 : decode cX8_readThings 24 = .ok (.ireturn, 1) := by decide +kernel
theorem dX8_readThings_25 : decode cX8_readThings 25 = .ok (.aload_n 0, 1) := by decide +kernel
theorem dX8_readThings_26 : decode cX8_readThings 26 = .ok (.bipush 15, 2) := by decide +kernel
theorem dX8_readThings_28 : decode cX8_readThings 28 = .ok (.invokevirtual 69, 3) := by decide +kernel
theorem dX8_readThings_31 : decode cX8_readThings 31 = .ok (.ifCond .ne 5, 3) := by decide +kernel
theorem dX8_readThings_34 : decode cX8_readThings 34 = .ok (.iconst 0, 1) := by decide +kernel
theorem dX8_readThings_35 : decode cX8_readThings 35 = .ok (.ireturn, 1) := by decide +kernel
theorem dX8_readThings_36 : decode cX8_readThings 36 = .ok (.aload_n 0, 1) := by decide +kernel
theorem dX8_readThings_37 : decode cX8_readThings 37 = .ok (.getfield 15, 3) := by decide +kernel
theorem dX8_readThings_40 : decode cX8_readThings 40 = .ok (.getfield 89, 3) := by decide +kernel
theorem dX8_readThings_43 : decode cX8_readThings 43 = .ok (.iload_n 1, 1) := by decide +kernel
theorem dX8_readThings_44 : decode cX8_readThings 44 = .ok (.dup2, 1) := by decide +kernel
theorem dX8_readThings_45 : decode cX8_readThings 45 = .ok (.iaload, 1) := by decide +kernel
theorem dX8_readThings_46 : decode cX8_readThings 46 = .ok (.aload_n 0, 1) := by decide +kernel
theorem dX8_readThings_47 : decode cX8_readThings 47 = .ok (.getfield 76, 3) := by decide +kernel
theorem dX8_readThings_50 : decode cX8_readThings 50 = .ok (.invokestatic 92, 3) := by decide +kernel
theorem dX8_readThings_53 : decode cX8_readThings 53 = .ok (.ior, 1) := by decide +kernel
theorem dX8_readThings_54 : decode cX8_readThings 54 = .ok (.iastore, 1) := by decide +kernel
theorem dX8_readThings_55 : decode cX8_readThings 55 = .ok (.aload_n 0, 1) := by decide +kernel
theorem dX8_readThings_56 : decode cX8_readThings 56 = .ok (.invokevirtual 23, 3) := by decide +kernel
theorem dX8_readThings_59 : decode cX8_readThings 59 = .ok (.iinc 2 1, 3) := by decide +kernel
theorem dX8_readThings_62 : decode cX8_readThings 62 = .ok (.goto (-60), 3) := by decide +kernel
theorem dX8_readThings_65 : decode cX8_readThings 65 = .ok (.iconst 1, 1) := by decide +kernel
theorem dX8_readThings_66 : decode cX8_readThings 66 = .ok (.ireturn, 1) := by decide +kernel
theorem dX8_readWorth_0 : decode cX8_readWorth 0 = .ok (.aload_n 0, 1) := by decide +kernel
theorem dX8_readWorth_1 : decode cX8_readWorth 1 = .ok (.invokevirtual 23, 3) := by decide +kernel
theorem dX8_readWorth_4 : decode cX8_readWorth 4 = .ok (.aload_n 0, 1) := by decide +kernel
theorem dX8_readWorth_5 : decode cX8_readWorth 5 = .ok (.bipush 15, 2) := by decide +kernel
theorem dX8_readWorth_7 : decode cX8_readWorth 7 = .ok (.invokevirtual 69, 3) := by decide +kernel
theorem dX8_readWorth_10 : decode cX8_readWorth 10 = .ok (.ifCond .ne 5, 3) := by decide +kernel
theorem dX8_readWorth_13 : decode cX8_readWorth 13 = .ok (.iconst 0, 1) := by decide +kernel
theorem dX8_readWorth_14 : decode cX8_readWorth 14 = .ok (.ireturn, 1) := by decide +kernel
theorem dX8_readWorth_15 : decode cX8_readWorth 15 = .ok (.aload_n 0, 1) := by decide +kernel
theorem dX8_readWorth_16 : decode cX8_readWorth 16 = .ok (.getfield 76, 3) := by decide +kernel
theorem dX8_readWorth_19 : decode cX8_readWorth 19 = .ok (.istore_n 1, 1) := by decide +kernel
theorem dX8_readWorth_20 : decode cX8_readWorth 20 = .ok (.aload_n 0, 1) := by decide +kernel
theorem dX8_readWorth_21 : decode cX8_readWorth 21 = .ok (.invokevirtual 23, 3) := by decide +kernel
theorem dX8_readWorth_24 : decode cX8_readWorth 24 = .ok (.aload_n 0, 1) := by decide +kernel
theorem dX8_readWorth_25 : decode cX8_readWorth 25 = .ok (.bipush 99, 2) := by decide +kernel
theorem dX8_readWorth_27 : decode cX8_readWorth 27 = .ok (.invokevirtual 69, 3) := by decide +kernel
theorem dX8_readWorth_30 : decode cX8_readWorth 30 = .ok (.ifCond .ne 5, 3) := by decide +kernel
theorem dX8_readWorth_33 : decode cX8_readWorth 33 = .ok (.iconst 0, 1) := by decide +kernel
theorem dX8_readWorth_34 : decode cX8_readWorth 34 = .ok (.ireturn, 1) := by decide +kernel
theorem dX8_readWorth_35 : decode cX8_readWorth 35 = .ok (.aload_n 0, 1) := by decide +kernel
theorem dX8_readWorth_36 : decode cX8_readWorth 36 = .ok (.getfield 15, 3) := by decide +kernel
theorem dX8_readWorth_39 : decode cX8_readWorth 39 = .ok (.getfield 95, 3) := by decide +kernel
theorem dX8_readWorth_42 : decode cX8_readWorth 42 = .ok (.iload_n 1, 1) := by decide +kernel
theorem dX8_readWorth_43 : decode cX8_readWorth 43 = .ok (.aload_n 0, 1) := by decide +kernel
theorem dX8_readWorth_44 : decode cX8_readWorth 44 = .ok (.getfield 76, 3) := by decide +kernel
theorem dX8_readWorth_47 : decode cX8_readWorth 47 = .ok (.iastore, 1) := by decide +kernel
theorem dX8_readWorth_48 : decode cX8_readWorth 48 = .ok (.aload_n 0, 1) := by decide +kernel
theorem dX8_readWorth_49 : decode cX8_readWorth 49 = .ok (.invokevirtual 23, 3) := by decide +kernel
theorem dX8_readWorth_52 : decode cX8_readWorth 52 = .ok (.iconst 1, 1) := by decide +kernel
theorem dX8_readWorth_53 : decode cX8_readWorth 53 = .ok (.ireturn, 1) := by decide +kernel
theorem dX8_readBurned_0 : decode cX8_readBurned 0 = .ok (.aload_n 0, 1) := by decide +kernel
theorem dX8_readBurned_1 : decode cX8_readBurned 1 = .ok (.invokevirtual 23, 3) := by decide +kernel
theorem dX8_readBurned_4 : decode cX8_readBurned 4 = .ok (.aload_n 0, 1) := by decide +kernel
theorem dX8_readBurned_5 : decode cX8_readBurned 5 = .ok (.bipush 15, 2) := by decide +kernel
theorem dX8_readBurned_7 : decode cX8_readBurned 7 = .ok (.invokevirtual 69, 3) := by decide +kernel
theorem dX8_readBurned_10 : decode cX8_readBurned 10 = .ok (.ifCond .ne 5, 3) := by decide +kernel
theorem dX8_readBurned_13 : decode cX8_readBurned 13 = .ok (.iconst 0, 1) := by decide +kernel
theorem dX8_readBurned_14 : decode cX8_readBurned 14 = .ok (.ireturn, 1) := by decide +kernel
theorem dX8_readBurned_15 : decode cX8_readBurned 15 = .ok (.aload_n 0, 1) := by decide +kernel
theorem dX8_readBurned_16 : decode cX8_readBurned 16 = .ok (.getfield 15, 3) := by decide +kernel
theorem dX8_readBurned_19 : decode cX8_readBurned 19 = .ok (.dup, 1) := by decide +kernel
theorem dX8_readBurned_20 : decode cX8_readBurned 20 = .ok (.getfield 98, 3) := by decide +kernel
theorem dX8_readBurned_23 : decode cX8_readBurned 23 = .ok (.aload_n 0, 1) := by decide +kernel
theorem dX8_readBurned_24 : decode cX8_readBurned 24 = .ok (.getfield 76, 3) := by decide +kernel
theorem dX8_readBurned_27 : decode cX8_readBurned 27 = .ok (.invokestatic 92, 3) := by decide +kernel
theorem dX8_readBurned_30 : decode cX8_readBurned 30 = .ok (.ior, 1) := by decide +kernel
theorem dX8_readBurned_31 : decode cX8_readBurned 31 = .ok (.putfield 98, 3) := by decide +kernel
theorem dX8_readBurned_34 : decode cX8_readBurned 34 = .ok (.aload_n 0, 1) := by decide +kernel
theorem dX8_readBurned_35 : decode cX8_readBurned 35 = .ok (.invokevirtual 23, 3) := by decide +kernel
theorem dX8_readBurned_38 : decode cX8_readBurned 38 = .ok (.iconst 1, 1) := by decide +kernel
theorem dX8_readBurned_39 : decode cX8_readBurned 39 = .ok (.ireturn, 1) := by decide +kernel
theorem dX8_isNumber_0 : decode cX8_isNumber 0 = .ok (.aload_n 0, 1) := by decide +kernel
theorem dX8_isNumber_1 : decode cX8_isNumber 1 = .ok (.getfield 33, 3) := by decide +kernel
theorem dX8_isNumber_4 : decode cX8_isNumber 4 = .ok (.iconst 2, 1) := by decide +kernel
theorem dX8_isNumber_5 : decode cX8_isNumber 5 = .ok (.if_icmp .ne 15, 3) := by decide +kernel
theorem dX8_isNumber_8 : decode cX8_isNumber 8 = .ok (.aload_n 0, 1) := by decide +kernel
theorem dX8_isNumber_9 : decode cX8_isNumber 9 = .ok (.getfield 76, 3) := by decide +kernel
theorem dX8_isNumber_12 : decode cX8_isNumber 12 = .ok (.iload_n 1, 1) := by decide +kernel
theorem dX8_isNumber_13 : decode cX8_isNumber 13 = .ok (.if_icmp .gt 7, 3) := by decide +kernel
theorem dX8_isNumber_16 : decode cX8_isNumber 16 = .ok (.iconst 1, 1) := by decide +kernel
theorem dX8_isNumber_17 : decode cX8_isNumber 17 = .ok (.goto 4, 3) := by decide +kernel
theorem dX8_isNumber_20 : decode cX8_isNumber 20 = .ok (.iconst 0, 1) := by decide +kernel
theorem dX8_isNumber_21 : decode cX8_isNumber 21 = .ok (.ireturn, 1) := by decide +kernel
theorem dX8_isWord_0 : decode cX8_isWord 0 = .ok (.aload_n 0, 1) := by decide +kernel
theorem dX8_isWord_1 : decode cX8_isWord 1 = .ok (.getfield 33, 3) := by decide +kernel
theorem dX8_isWord_4 : decode cX8_isWord 4 = .ok (.iconst 1, 1) := by decide +kernel
theorem dX8_isWord_5 : decode cX8_isWord 5 = .ok (.if_icmp .ne 19, 3) := by decide +kernel
theorem dX8_isWord_8 : decode cX8_isWord 8 = .ok (.aload_n 0, 1) := by decide +kernel
theorem dX8_isWord_9 : decode cX8_isWord 9 = .ok (.getfield 19, 3) := by decide +kernel
theorem dX8_isWord_12 : decode cX8_isWord 12 = .ok (.aload_n 0, 1) := by decide +kernel
theorem dX8_isWord_13 : decode cX8_isWord 13 = .ok (.getfield 30, 3) := by decide +kernel
theorem dX8_isWord_16 : decode cX8_isWord 16 = .ok (.isub, 1) := by decide +kernel
theorem dX8_isWord_17 : decode cX8_isWord 17 = .ok (.aload_n 1, 1) := by decide +kernel
theorem dX8_isWord_18 : decode cX8_isWord 18 = .ok (.invokevirtual 100, 3) := by decide +kernel
theorem dX8_isWord_21 : decode cX8_isWord 21 = .ok (.if_icmp .eq 5, 3) := by decide +kernel
theorem dX8_isWord_24 : decode cX8_isWord 24 = .ok (.iconst 0, 1) := by decide +kernel
theorem dX8_isWord_25 : decode cX8_isWord 25 = .ok (.ireturn, 1) := by decide +kernel
theorem dX8_isWord_26 : decode cX8_isWord 26 = .ok (.iconst 0, 1) := by decide +kernel
theorem dX8_isWord_27 : decode cX8_isWord 27 = .ok (.istore_n 2, 1) := by decide +kernel
theorem dX8_isWord_28 : decode cX8_isWord 28 = .ok (.iload_n 2, 1) := by decide +kernel
theorem dX8_isWord_29 : decode cX8_isWord 29 = .ok (.aload_n 1, 1) := by decide +kernel
theorem dX8_isWord_30 : decode cX8_isWord 30 = .ok (.invokevirtual 100, 3) := by decide +kernel
theorem dX8_isWord_33 : decode cX8_isWord 33 = .ok (.if_icmp .ge 33, 3) := by decide +kernel
theorem dX8_isWord_36 : decode cX8_isWord 36 = .ok (.aload_n 0, 1) := by decide +kernel
theorem dX8_isWord_37 : decode cX8_isWord 37 = .ok (.getfield 9, 3) := by decide +kernel
theorem dX8_isWord_40 : decode cX8_isWord 40 = .ok (.getfield 105, 3) := by decide +kernel
theorem dX8_isWord_43 : decode cX8_isWord 43 = .ok (.aload_n 0, 1) := by decide +kernel
theorem dX8_isWord_44 : decode cX8_isWord 44 = .ok (.getfield 30, 3) := by decide +kernel
theorem dX8_isWord_47 : decode cX8_isWord 47 = .ok (.iload_n 2, 1) := by decide +kernel
theorem dX8_isWord_48 : decode cX8_isWord 48 = .ok (.iadd, 1) := by decide +kernel
theorem dX8_isWord_49 : decode cX8_isWord 49 = .ok (.iaload, 1) := by decide +kernel
theorem dX8_isWord_50 : decode cX8_isWord 50 = .ok (.aload_n 1, 1) := by decide +kernel
theorem dX8_isWord_51 : decode cX8_isWord 51 = .ok (.iload_n 2, 1) := by decide +kernel
theorem dX8_isWord_52 : decode cX8_isWord 52 = .ok (.invokevirtual 110, 3) := by decide +kernel
theorem dX8_isWord_55 : decode cX8_isWord 55 = .ok (.if_icmp .eq 5, 3) := by decide +kernel
theorem dX8_isWord_58 : decode cX8_isWord 58 = .ok (.iconst 0, 1) := by decide +kernel
theorem dX8_isWord_59 : decode cX8_isWord 59 = .ok (.ireturn, 1) := by decide +kernel
theorem dX8_isWord_60 : decode cX8_isWord 60 = .ok (.iinc 2 1, 3) := by decide +kernel
theorem dX8_isWord_63 : decode cX8_isWord 63 = .ok (.goto (-35), 3) := by decide +kernel
theorem dX8_isWord_66 : decode cX8_isWord 66 = .ok (.iconst 1, 1) := by decide +kernel
theorem dX8_isWord_67 : decode cX8_isWord 67 = .ok (.ireturn, 1) := by decide +kernel
theorem dX8_kindNamed_0 : decode cX8_kindNamed 0 = .ok (.iconst 0, 1) := by decide +kernel
theorem dX8_kindNamed_1 : decode cX8_kindNamed 1 = .ok (.istore_n 1, 1) := by decide +kernel
theorem dX8_kindNamed_2 : decode cX8_kindNamed 2 = .ok (.iload_n 1, 1) := by decide +kernel
theorem dX8_kindNamed_3 : decode cX8_kindNamed 3 = .ok (.bipush 6, 2) := by decide +kernel
theorem dX8_kindNamed_5 : decode cX8_kindNamed 5 = .ok (.if_icmp .ge 22, 3) := by decide +kernel
theorem dX8_kindNamed_8 : decode cX8_kindNamed 8 = .ok (.aload_n 0, 1) := by decide +kernel
theorem dX8_kindNamed_9 : decode cX8_kindNamed 9 = .ok (.iload_n 1, 1) := by decide +kernel
theorem dX8_kindNamed_10 : decode cX8_kindNamed 10 = .ok (.invokestatic 114, 3) := by decide +kernel
theorem dX8_kindNamed_13 : decode cX8_kindNamed 13 = .ok (.invokevirtual 46, 3) := by decide +kernel
theorem dX8_kindNamed_16 : decode cX8_kindNamed 16 = .ok (.ifCond .eq 5, 3) := by decide +kernel
theorem dX8_kindNamed_19 : decode cX8_kindNamed 19 = .ok (.iload_n 1, 1) := by decide +kernel
theorem dX8_kindNamed_20 : decode cX8_kindNamed 20 = .ok (.ireturn, 1) := by decide +kernel
theorem dX8_kindNamed_21 : decode cX8_kindNamed 21 = .ok (.iinc 1 1, 3) := by decide +kernel
theorem dX8_kindNamed_24 : decode cX8_kindNamed 24 = .ok (.goto (-22), 3) := by decide +kernel
theorem dX8_kindNamed_27 : decode cX8_kindNamed 27 = .ok (.iconst (-1), 1) := by decide +kernel
theorem dX8_kindNamed_28 : decode cX8_kindNamed 28 = .ok (.ireturn, 1) := by decide +kernel
theorem dX8_nameOfKind_0 : decode cX8_nameOfKind 0 = .ok (.iload_n 0, 1) := by decide +kernel
theorem dX8_nameOfKind_1 : decode cX8_nameOfKind 1 = .ok (.tableswitch 50 0 4 #[35, 38, 41, 44, 47], 35) := by decide +kernel
theorem dX8_nameOfKind_36 : decode cX8_nameOfKind 36 = .ok (.ldc 118, 2) := by decide +kernel
theorem dX8_nameOfKind_38 : decode cX8_nameOfKind 38 = .ok (.areturn, 1) := by decide +kernel
theorem dX8_nameOfKind_39 : decode cX8_nameOfKind 39 = .ok (.ldc 120, 2) := by decide +kernel
theorem dX8_nameOfKind_41 : decode cX8_nameOfKind 41 = .ok (.areturn, 1) := by decide +kernel
theorem dX8_nameOfKind_42 : decode cX8_nameOfKind 42 = .ok (.ldc 122, 2) := by decide +kernel
theorem dX8_nameOfKind_44 : decode cX8_nameOfKind 44 = .ok (.areturn, 1) := by decide +kernel
theorem dX8_nameOfKind_45 : decode cX8_nameOfKind 45 = .ok (.ldc 124, 2) := by decide +kernel
theorem dX8_nameOfKind_47 : decode cX8_nameOfKind 47 = .ok (.areturn, 1) := by decide +kernel
theorem dX8_nameOfKind_48 : decode cX8_nameOfKind 48 = .ok (.ldc 126, 2) := by decide +kernel
theorem dX8_nameOfKind_50 : decode cX8_nameOfKind 50 = .ok (.areturn, 1) := by decide +kernel
theorem dX8_nameOfKind_51 : decode cX8_nameOfKind 51 = .ok (.ldc 128, 2) := by decide +kernel
theorem dX8_nameOfKind_53 : decode cX8_nameOfKind 53 = .ok (.areturn, 1) := by decide +kernel
theorem dX8_next_0 : decode cX8_next 0 = .ok (.aload_n 0, 1) := by decide +kernel
theorem dX8_next_1 : decode cX8_next 1 = .ok (.aload_n 0, 1) := by decide +kernel
theorem dX8_next_2 : decode cX8_next 2 = .ok (.getfield 19, 3) := by decide +kernel
theorem dX8_next_5 : decode cX8_next 5 = .ok (.putfield 30, 3) := by decide +kernel
theorem dX8_next_8 : decode cX8_next 8 = .ok (.aload_n 0, 1) := by decide +kernel
theorem dX8_next_9 : decode cX8_next 9 = .ok (.getfield 30, 3) := by decide +kernel
theorem dX8_next_12 : decode cX8_next 12 = .ok (.aload_n 0, 1) := by decide +kernel
theorem dX8_next_13 : decode cX8_next 13 = .ok (.getfield 9, 3) := by decide +kernel
theorem dX8_next_16 : decode cX8_next 16 = .ok (.getfield 130, 3) := by decide +kernel
theorem dX8_next_19 : decode cX8_next 19 = .ok (.if_icmp .ge 33, 3) := by decide +kernel
theorem dX8_next_22 : decode cX8_next 22 = .ok (.aload_n 0, 1) := by decide +kernel
theorem dX8_next_23 : decode cX8_next 23 = .ok (.getfield 9, 3) := by decide +kernel
theorem dX8_next_26 : decode cX8_next 26 = .ok (.getfield 105, 3) := by decide +kernel
theorem dX8_next_29 : decode cX8_next 29 = .ok (.aload_n 0, 1) := by decide +kernel
theorem dX8_next_30 : decode cX8_next 30 = .ok (.getfield 30, 3) := by decide +kernel
theorem dX8_next_33 : decode cX8_next 33 = .ok (.iaload, 1) := by decide +kernel
theorem dX8_next_34 : decode cX8_next 34 = .ok (.bipush 32, 2) := by decide +kernel
theorem dX8_next_36 : decode cX8_next 36 = .ok (.if_icmp .ne 16, 3) := by decide +kernel
theorem dX8_next_39 : decode cX8_next 39 = .ok (.aload_n 0, 1) := by decide +kernel
theorem dX8_next_40 : decode cX8_next 40 = .ok (.dup, 1) := by decide +kernel
theorem dX8_next_41 : decode cX8_next 41 = .ok (.getfield 30, 3) := by decide +kernel
theorem dX8_next_44 : decode cX8_next 44 = .ok (.iconst 1, 1) := by decide +kernel
theorem dX8_next_45 : decode cX8_next 45 = .ok (.iadd, 1) := by decide +kernel
theorem dX8_next_46 : decode cX8_next 46 = .ok (.putfield 30, 3) := by decide +kernel
theorem dX8_next_49 : decode cX8_next 49 = .ok (.goto (-41), 3) := by decide +kernel
theorem dX8_next_52 : decode cX8_next 52 = .ok (.aload_n 0, 1) := by decide +kernel
theorem dX8_next_53 : decode cX8_next 53 = .ok (.aload_n 0, 1) := by decide +kernel
theorem dX8_next_54 : decode cX8_next 54 = .ok (.getfield 30, 3) := by decide +kernel
theorem dX8_next_57 : decode cX8_next 57 = .ok (.putfield 19, 3) := by decide +kernel
theorem dX8_next_60 : decode cX8_next 60 = .ok (.aload_n 0, 1) := by decide +kernel
theorem dX8_next_61 : decode cX8_next 61 = .ok (.getfield 30, 3) := by decide +kernel
theorem dX8_next_64 : decode cX8_next 64 = .ok (.aload_n 0, 1) := by decide +kernel
theorem dX8_next_65 : decode cX8_next 65 = .ok (.getfield 9, 3) := by decide +kernel
theorem dX8_next_68 : decode cX8_next 68 = .ok (.getfield 130, 3) := by decide +kernel
theorem dX8_next_71 : decode cX8_next 71 = .ok (.if_icmp .lt 11, 3) := by decide +kernel
theorem dX8_next_74 : decode cX8_next 74 = .ok (.aload_n 0, 1) := by decide +kernel
theorem dX8_next_75 : decode cX8_next 75 = .ok (.iconst 0, 1) := by decide +kernel
theorem dX8_next_76 : decode cX8_next 76 = .ok (.putfield 33, 3) := by decide +kernel
theorem dX8_next_79 : decode cX8_next 79 = .ok (.goto 85, 3) := by decide +kernel
theorem dX8_next_82 : decode cX8_next 82 = .ok (.aload_n 0, 1) := by decide +kernel
theorem dX8_next_83 : decode cX8_next 83 = .ok (.aload_n 0, 1) := by decide +kernel
theorem dX8_next_84 : decode cX8_next 84 = .ok (.getfield 30, 3) := by decide +kernel
theorem dX8_next_87 : decode cX8_next 87 = .ok (.invokevirtual 132, 3) := by decide +kernel
theorem dX8_next_90 : decode cX8_next 90 = .ok (.ifCond .eq 15, 3) := by decide +kernel
theorem dX8_next_93 : decode cX8_next 93 = .ok (.aload_n 0, 1) := by decide +kernel
theorem dX8_next_94 : decode cX8_next 94 = .ok (.iconst 1, 1) := by decide +kernel
theorem dX8_next_95 : decode cX8_next 95 = .ok (.putfield 33, 3) := by decide +kernel
theorem dX8_next_98 : decode cX8_next 98 = .ok (.aload_n 0, 1) := by decide +kernel
theorem dX8_next_99 : decode cX8_next 99 = .ok (.invokevirtual 135, 3) := by decide +kernel
theorem dX8_next_102 : decode cX8_next 102 = .ok (.goto 62, 3) := by decide +kernel
theorem dX8_next_105 : decode cX8_next 105 = .ok (.aload_n 0, 1) := by decide +kernel
theorem dX8_next_106 : decode cX8_next 106 = .ok (.aload_n 0, 1) := by decide +kernel
theorem dX8_next_107 : decode cX8_next 107 = .ok (.getfield 30, 3) := by decide +kernel
theorem dX8_next_110 : decode cX8_next 110 = .ok (.invokevirtual 138, 3) := by decide +kernel
theorem dX8_next_113 : decode cX8_next 113 = .ok (.ifCond .eq 15, 3) := by decide +kernel
theorem dX8_next_116 : decode cX8_next 116 = .ok (.aload_n 0, 1) := by decide +kernel
theorem dX8_next_117 : decode cX8_next 117 = .ok (.iconst 2, 1) := by decide +kernel
theorem dX8_next_118 : decode cX8_next 118 = .ok (.putfield 33, 3) := by decide +kernel
theorem dX8_next_121 : decode cX8_next 121 = .ok (.aload_n 0, 1) := by decide +kernel
theorem dX8_next_122 : decode cX8_next 122 = .ok (.invokevirtual 141, 3) := by decide +kernel
theorem dX8_next_125 : decode cX8_next 125 = .ok (.goto 39, 3) := by decide +kernel
theorem dX8_next_128 : decode cX8_next 128 = .ok (.aload_n 0, 1) := by decide +kernel
theorem dX8_next_129 : decode cX8_next 129 = .ok (.aload_n 0, 1) := by decide +kernel
theorem dX8_next_130 : decode cX8_next 130 = .ok (.getfield 9, 3) := by decide +kernel
theorem dX8_next_133 : decode cX8_next 133 = .ok (.getfield 105, 3) := by decide +kernel
theorem dX8_next_136 : decode cX8_next 136 = .ok (.aload_n 0, 1) := by decide +kernel
theorem dX8_next_137 : decode cX8_next 137 = .ok (.getfield 30, 3) := by decide +kernel
theorem dX8_next_140 : decode cX8_next 140 = .ok (.iaload, 1) := by decide +kernel
theorem dX8_next_141 : decode cX8_next 141 = .ok (.bipush 59, 2) := by decide +kernel
theorem dX8_next_143 : decode cX8_next 143 = .ok (.if_icmp .ne 7, 3) := by decide +kernel
theorem dX8_next_146 : decode cX8_next 146 = .ok (.iconst 3, 1) := by decide +kernel
theorem dX8_next_147 : decode cX8_next 147 = .ok (.goto 4, 3) := by decide +kernel
theorem dX8_next_150 : decode cX8_next 150 = .ok (.iconst 4, 1) := by decide +kernel
theorem dX8_next_151 : decode cX8_next 151 = .ok (.putfield 33, 3) := by decide +kernel
theorem dX8_next_154 : decode cX8_next 154 = .ok (.aload_n 0, 1) := by decide +kernel
theorem dX8_next_155 : decode cX8_next 155 = .ok (.aload_n 0, 1) := by decide +kernel
theorem dX8_next_156 : decode cX8_next 156 = .ok (.getfield 30, 3) := by decide +kernel
theorem dX8_next_159 : decode cX8_next 159 = .ok (.iconst 1, 1) := by decide +kernel
theorem dX8_next_160 : decode cX8_next 160 = .ok (.iadd, 1) := by decide +kernel
theorem dX8_next_161 : decode cX8_next 161 = .ok (.putfield 19, 3) := by decide +kernel
theorem dX8_next_164 : decode cX8_next 164 = .ok (.return_, 1) := by decide +kernel
theorem dX8_passWord_0 : decode cX8_passWord 0 = .ok (.aload_n 0, 1) := by decide +kernel
theorem dX8_passWord_1 : decode cX8_passWord 1 = .ok (.getfield 19, 3) := by decide +kernel
theorem dX8_passWord_4 : decode cX8_passWord 4 = .ok (.aload_n 0, 1) := by decide +kernel
theorem dX8_passWord_5 : decode cX8_passWord 5 = .ok (.getfield 9, 3) := by decide +kernel
theorem dX8_passWord_8 : decode cX8_passWord 8 = .ok (.getfield 130, 3) := by decide +kernel
theorem dX8_passWord_11 : decode cX8_passWord 11 = .ok (.if_icmp .ge 27, 3) := by decide +kernel
theorem dX8_passWord_14 : decode cX8_passWord 14 = .ok (.aload_n 0, 1) := by decide +kernel
theorem dX8_passWord_15 : decode cX8_passWord 15 = .ok (.aload_n 0, 1) := by decide +kernel
theorem dX8_passWord_16 : decode cX8_passWord 16 = .ok (.getfield 19, 3) := by decide +kernel
theorem dX8_passWord_19 : decode cX8_passWord 19 = .ok (.invokevirtual 132, 3) := by decide +kernel
theorem dX8_passWord_22 : decode cX8_passWord 22 = .ok (.ifCond .eq 16, 3) := by decide +kernel
theorem dX8_passWord_25 : decode cX8_passWord 25 = .ok (.aload_n 0, 1) := by decide +kernel
theorem dX8_passWord_26 : decode cX8_passWord 26 = .ok (.dup, 1) := by decide +kernel
theorem dX8_passWord_27 : decode cX8_passWord 27 = .ok (.getfield 19, 3) := by decide +kernel
theorem dX8_passWord_30 : decode cX8_passWord 30 = .ok (.iconst 1, 1) := by decide +kernel
theorem dX8_passWord_31 : decode cX8_passWord 31 = .ok (.iadd, 1) := by decide +kernel
theorem dX8_passWord_32 : decode cX8_passWord 32 = .ok (.putfield 19, 3) := by decide +kernel
theorem dX8_passWord_35 : decode cX8_passWord 35 = .ok (.goto (-35), 3) := by decide +kernel
theorem dX8_passWord_38 : decode cX8_passWord 38 = .ok (.return_, 1) := by decide +kernel
theorem dX8_passNumber_0 : decode cX8_passNumber 0 = .ok (.aload_n 0, 1) := by decide +kernel
theorem dX8_passNumber_1 : decode cX8_passNumber 1 = .ok (.iconst 0, 1) := by decide +kernel
theorem dX8_passNumber_2 : decode cX8_passNumber 2 = .ok (.putfield 76, 3) := by decide +kernel
theorem dX8_passNumber_5 : decode cX8_passNumber 5 = .ok (.aload_n 0, 1) := by decide +kernel
theorem dX8_passNumber_6 : decode cX8_passNumber 6 = .ok (.getfield 19, 3) := by decide +kernel
theorem dX8_passNumber_9 : decode cX8_passNumber 9 = .ok (.aload_n 0, 1) := by decide +kernel
theorem dX8_passNumber_10 : decode cX8_passNumber 10 = .ok (.getfield 9, 3) := by decide +kernel
theorem dX8_passNumber_13 : decode cX8_passNumber 13 = .ok (.getfield 130, 3) := by decide +kernel
theorem dX8_passNumber_16 : decode cX8_passNumber 16 = .ok (.if_icmp .ge 60, 3) := by decide +kernel
theorem dX8_passNumber_19 : decode cX8_passNumber 19 = .ok (.aload_n 0, 1) := by decide +kernel
theorem dX8_passNumber_20 : decode cX8_passNumber 20 = .ok (.aload_n 0, 1) := by decide +kernel
theorem dX8_passNumber_21 : decode cX8_passNumber 21 = .ok (.getfield 19, 3) := by decide +kernel
theorem dX8_passNumber_24 : decode cX8_passNumber 24 = .ok (.invokevirtual 138, 3) := by decide +kernel
theorem dX8_passNumber_27 : decode cX8_passNumber 27 = .ok (.ifCond .eq 49, 3) := by decide +kernel
theorem dX8_passNumber_30 : decode cX8_passNumber 30 = .ok (.aload_n 0, 1) := by decide +kernel
theorem dX8_passNumber_31 : decode cX8_passNumber 31 = .ok (.aload_n 0, 1) := by decide +kernel
theorem dX8_passNumber_32 : decode cX8_passNumber 32 = .ok (.getfield 76, 3) := by decide +kernel
theorem dX8_passNumber_35 : decode cX8_passNumber 35 = .ok (.bipush 10, 2) := by decide +kernel
theorem dX8_passNumber_37 : decode cX8_passNumber 37 = .ok (.imul, 1) := by decide +kernel
theorem dX8_passNumber_38 : decode cX8_passNumber 38 = .ok (.aload_n 0, 1) := by decide +kernel
theorem dX8_passNumber_39 : decode cX8_passNumber 39 = .ok (.getfield 9, 3) := by decide +kernel
theorem dX8_passNumber_42 : decode cX8_passNumber 42 = .ok (.getfield 105, 3) := by decide +kernel
theorem dX8_passNumber_45 : decode cX8_passNumber 45 = .ok (.aload_n 0, 1) := by decide +kernel
theorem dX8_passNumber_46 : decode cX8_passNumber 46 = .ok (.getfield 19, 3) := by decide +kernel
theorem dX8_passNumber_49 : decode cX8_passNumber 49 = .ok (.iaload, 1) := by decide +kernel
theorem dX8_passNumber_50 : decode cX8_passNumber 50 = .ok (.iadd, 1) := by decide +kernel
theorem dX8_passNumber_51 : decode cX8_passNumber 51 = .ok (.bipush 48, 2) := by decide +kernel
theorem dX8_passNumber_53 : decode cX8_passNumber 53 = .ok (.isub, 1) := by decide +kernel
theorem dX8_passNumber_54 : decode cX8_passNumber 54 = .ok (.sipush 1000, 3) := by decide +kernel
theorem dX8_passNumber_57 : decode cX8_passNumber 57 = .ok (.invokestatic 144, 3) := by decide +kernel
theorem dX8_passNumber_60 : decode cX8_passNumber 60 = .ok (.putfield 76, 3) := by decide +kernel
theorem dX8_passNumber_63 : decode cX8_passNumber 63 = .ok (.aload_n 0, 1) := by decide +kernel
theorem dX8_passNumber_64 : decode cX8_passNumber 64 = .ok (.dup, 1) := by decide +kernel
theorem dX8_passNumber_65 : decode cX8_passNumber 65 = .ok (.getfield 19, 3) := by decide +kernel
theorem dX8_passNumber_68 : decode cX8_passNumber 68 = .ok (.iconst 1, 1) := by decide +kernel
theorem dX8_passNumber_69 : decode cX8_passNumber 69 = .ok (.iadd, 1) := by decide +kernel
theorem dX8_passNumber_70 : decode cX8_passNumber 70 = .ok (.putfield 19, 3) := by decide +kernel
theorem dX8_passNumber_73 : decode cX8_passNumber 73 = .ok (.goto (-68), 3) := by decide +kernel
theorem dX8_passNumber_76 : decode cX8_passNumber 76 = .ok (.return_, 1) := by decide +kernel
theorem dX8_isLetter_0 : decode cX8_isLetter 0 = .ok (.aload_n 0, 1) := by decide +kernel
theorem dX8_isLetter_1 : decode cX8_isLetter 1 = .ok (.getfield 9, 3) := by decide +kernel
theorem dX8_isLetter_4 : decode cX8_isLetter 4 = .ok (.getfield 105, 3) := by decide +kernel
theorem dX8_isLetter_7 : decode cX8_isLetter 7 = .ok (.iload_n 1, 1) := by decide +kernel
theorem dX8_isLetter_8 : decode cX8_isLetter 8 = .ok (.iaload, 1) := by decide +kernel
theorem dX8_isLetter_9 : decode cX8_isLetter 9 = .ok (.bipush 97, 2) := by decide +kernel
theorem dX8_isLetter_11 : decode cX8_isLetter 11 = .ok (.if_icmp .lt 21, 3) := by decide +kernel
theorem dX8_isLetter_14 : decode cX8_isLetter 14 = .ok (.aload_n 0, 1) := by decide +kernel
theorem dX8_isLetter_15 : decode cX8_isLetter 15 = .ok (.getfield 9, 3) := by decide +kernel
theorem dX8_isLetter_18 : decode cX8_isLetter 18 = .ok (.getfield 105, 3) := by decide +kernel
theorem dX8_isLetter_21 : decode cX8_isLetter 21 = .ok (.iload_n 1, 1) := by decide +kernel
theorem dX8_isLetter_22 : decode cX8_isLetter 22 = .ok (.iaload, 1) := by decide +kernel
theorem dX8_isLetter_23 : decode cX8_isLetter 23 = .ok (.bipush 122, 2) := by decide +kernel
theorem dX8_isLetter_25 : decode cX8_isLetter 25 = .ok (.if_icmp .gt 7, 3) := by decide +kernel
theorem dX8_isLetter_28 : decode cX8_isLetter 28 = .ok (.iconst 1, 1) := by decide +kernel
theorem dX8_isLetter_29 : decode cX8_isLetter 29 = .ok (.goto 4, 3) := by decide +kernel
theorem dX8_isLetter_32 : decode cX8_isLetter 32 = .ok (.iconst 0, 1) := by decide +kernel
theorem dX8_isLetter_33 : decode cX8_isLetter 33 = .ok (.ireturn, 1) := by decide +kernel
theorem dX8_isDigit_0 : decode cX8_isDigit 0 = .ok (.aload_n 0, 1) := by decide +kernel
theorem dX8_isDigit_1 : decode cX8_isDigit 1 = .ok (.getfield 9, 3) := by decide +kernel
theorem dX8_isDigit_4 : decode cX8_isDigit 4 = .ok (.getfield 105, 3) := by decide +kernel
theorem dX8_isDigit_7 : decode cX8_isDigit 7 = .ok (.iload_n 1, 1) := by decide +kernel
theorem dX8_isDigit_8 : decode cX8_isDigit 8 = .ok (.iaload, 1) := by decide +kernel
theorem dX8_isDigit_9 : decode cX8_isDigit 9 = .ok (.bipush 48, 2) := by decide +kernel
theorem dX8_isDigit_11 : decode cX8_isDigit 11 = .ok (.if_icmp .lt 21, 3) := by decide +kernel
theorem dX8_isDigit_14 : decode cX8_isDigit 14 = .ok (.aload_n 0, 1) := by decide +kernel
theorem dX8_isDigit_15 : decode cX8_isDigit 15 = .ok (.getfield 9, 3) := by decide +kernel
theorem dX8_isDigit_18 : decode cX8_isDigit 18 = .ok (.getfield 105, 3) := by decide +kernel
theorem dX8_isDigit_21 : decode cX8_isDigit 21 = .ok (.iload_n 1, 1) := by decide +kernel
theorem dX8_isDigit_22 : decode cX8_isDigit 22 = .ok (.iaload, 1) := by decide +kernel
theorem dX8_isDigit_23 : decode cX8_isDigit 23 = .ok (.bipush 57, 2) := by decide +kernel
theorem dX8_isDigit_25 : decode cX8_isDigit 25 = .ok (.if_icmp .gt 7, 3) := by decide +kernel
theorem dX8_isDigit_28 : decode cX8_isDigit 28 = .ok (.iconst 1, 1) := by decide +kernel
theorem dX8_isDigit_29 : decode cX8_isDigit 29 = .ok (.goto 4, 3) := by decide +kernel
theorem dX8_isDigit_32 : decode cX8_isDigit 32 = .ok (.iconst 0, 1) := by decide +kernel
theorem dX8_isDigit_33 : decode cX8_isDigit 33 = .ok (.ireturn, 1) := by decide +kernel
theorem dX9_init_0 : decode cX9_init 0 = .ok (.aload_n 0, 1) := by decide +kernel
theorem dX9_init_1 : decode cX9_init 1 = .ok (.invokespecial 3, 3) := by decide +kernel
theorem dX9_init_4 : decode cX9_init 4 = .ok (.return_, 1) := by decide +kernel
theorem dX9_shows_0 : decode cX9_shows 0 = .ok (.iload_n 2, 1) := by decide +kernel
theorem dX9_shows_1 : decode cX9_shows 1 = .ok (.bipush 49, 2) := by decide +kernel
theorem dX9_shows_3 : decode cX9_shows 3 = .ok (.if_icmp .ge 7, 3) := by decide +kernel
theorem dX9_shows_6 : decode cX9_shows 6 = .ok (.iconst 0, 1) := by decide +kernel
theorem dX9_shows_7 : decode cX9_shows 7 = .ok (.goto 10, 3) := by decide +kernel
theorem dX9_shows_10 : decode cX9_shows 10 = .ok (.aload_n 0, 1) := by decide +kernel
theorem dX9_shows_11 : decode cX9_shows 11 = .ok (.iload_n 1, 1) := by decide +kernel
theorem dX9_shows_12 : decode cX9_shows 12 = .ok (.iload_n 2, 1) := by decide +kernel
theorem dX9_shows_13 : decode cX9_shows 13 = .ok (.aload_n 3, 1) := by decide +kernel
theorem dX9_shows_14 : decode cX9_shows 14 = .ok (.invokespecial 9, 3) := by decide +kernel
theorem dX9_shows_17 : decode cX9_shows 17 = .ok (.ireturn, 1) := by decide +kernel
theorem dX9_taken_0 : decode cX9_taken 0 = .ok (.aload_n 0, 1) := by decide +kernel
theorem dX9_taken_1 : decode cX9_taken 1 = .ok (.iload_n 1, 1) := by decide +kernel
theorem dX9_taken_2 : decode cX9_taken 2 = .ok (.aload_n 2, 1) := by decide +kernel
theorem dX9_taken_3 : decode cX9_taken 3 = .ok (.invokespecial 13, 3) := by decide +kernel
theorem dX9_taken_6 : decode cX9_taken 6 = .ok (.istore_n 3, 1) := by decide +kernel
theorem dX9_taken_7 : decode cX9_taken 7 = .ok (.iload_n 1, 1) := by decide +kernel
theorem dX9_taken_8 : decode cX9_taken 8 = .ok (.iload_n 3, 1) := by decide +kernel
theorem dX9_taken_9 : decode cX9_taken 9 = .ok (.invokestatic 17, 3) := by decide +kernel
theorem dX9_taken_12 : decode cX9_taken 12 = .ok (.iconst (-1), 1) := by decide +kernel
theorem dX9_taken_13 : decode cX9_taken 13 = .ok (.ixor, 1) := by decide +kernel
theorem dX9_taken_14 : decode cX9_taken 14 = .ok (.iand, 1) := by decide +kernel
theorem dX9_taken_15 : decode cX9_taken 15 = .ok (.istore 4, 2) := by decide +kernel
theorem dX9_taken_17 : decode cX9_taken 17 = .ok (.iload 4, 2) := by decide +kernel
theorem dX9_taken_19 : decode cX9_taken 19 = .ok (.ifCond .ne 7, 3) := by decide +kernel
theorem dX9_taken_22 : decode cX9_taken 22 = .ok (.iload_n 3, 1) := by decide +kernel
theorem dX9_taken_23 : decode cX9_taken 23 = .ok (.goto 9, 3) := by decide +kernel
theorem dX9_taken_26 : decode cX9_taken 26 = .ok (.iload 4, 2) := by decide +kernel
theorem dX9_taken_28 : decode cX9_taken 28 = .ok (.aload_n 2, 1) := by decide +kernel
theorem dX9_taken_29 : decode cX9_taken 29 = .ok (.invokestatic 21, 3) := by decide +kernel
theorem dX9_taken_32 : decode cX9_taken 32 = .ok (.ireturn, 1) := by decide +kernel
theorem dX9_finds_0 : decode cX9_finds 0 = .ok (.iconst (-1), 1) := by decide +kernel
theorem dX9_finds_1 : decode cX9_finds 1 = .ok (.ireturn, 1) := by decide +kernel
theorem dJ6_bitCount_0f7a4_0 : decode cJ6_bitCount_0f7a4 0 = .ok (.iload_n 0, 1) := by decide +kernel
theorem dJ6_bitCount_0f7a4_1 : decode cJ6_bitCount_0f7a4 1 = .ok (.iload_n 0, 1) := by decide +kernel
theorem dJ6_bitCount_0f7a4_2 : decode cJ6_bitCount_0f7a4 2 = .ok (.iconst 1, 1) := by decide +kernel
theorem dJ6_bitCount_0f7a4_3 : decode cJ6_bitCount_0f7a4 3 = .ok (.iushr, 1) := by decide +kernel
theorem dJ6_bitCount_0f7a4_4 : decode cJ6_bitCount_0f7a4 4 = .ok (.ldc_w 265, 3) := by decide +kernel
theorem dJ6_bitCount_0f7a4_7 : decode cJ6_bitCount_0f7a4 7 = .ok (.iand, 1) := by decide +kernel
theorem dJ6_bitCount_0f7a4_8 : decode cJ6_bitCount_0f7a4 8 = .ok (.isub, 1) := by decide +kernel
theorem dJ6_bitCount_0f7a4_9 : decode cJ6_bitCount_0f7a4 9 = .ok (.istore_n 0, 1) := by decide +kernel
theorem dJ6_bitCount_0f7a4_10 : decode cJ6_bitCount_0f7a4 10 = .ok (.iload_n 0, 1) := by decide +kernel
theorem dJ6_bitCount_0f7a4_11 : decode cJ6_bitCount_0f7a4 11 = .ok (.ldc_w 266, 3) := by decide +kernel
theorem dJ6_bitCount_0f7a4_14 : decode cJ6_bitCount_0f7a4 14 = .ok (.iand, 1) := by decide +kernel
theorem dJ6_bitCount_0f7a4_15 : decode cJ6_bitCount_0f7a4 15 = .ok (.iload_n 0, 1) := by decide +kernel
theorem dJ6_bitCount_0f7a4_16 : decode cJ6_bitCount_0f7a4 16 = .ok (.iconst 2, 1) := by decide +kernel
theorem dJ6_bitCount_0f7a4_17 : decode cJ6_bitCount_0f7a4 17 = .ok (.iushr, 1) := by decide +kernel
theorem dJ6_bitCount_0f7a4_18 : decode cJ6_bitCount_0f7a4 18 = .ok (.ldc_w 266, 3) := by decide +kernel
theorem dJ6_bitCount_0f7a4_21 : decode cJ6_bitCount_0f7a4 21 = .ok (.iand, 1) := by decide +kernel
theorem dJ6_bitCount_0f7a4_22 : decode cJ6_bitCount_0f7a4 22 = .ok (.iadd, 1) := by decide +kernel
theorem dJ6_bitCount_0f7a4_23 : decode cJ6_bitCount_0f7a4 23 = .ok (.istore_n 0, 1) := by decide +kernel
theorem dJ6_bitCount_0f7a4_24 : decode cJ6_bitCount_0f7a4 24 = .ok (.iload_n 0, 1) := by decide +kernel
theorem dJ6_bitCount_0f7a4_25 : decode cJ6_bitCount_0f7a4 25 = .ok (.iload_n 0, 1) := by decide +kernel
theorem dJ6_bitCount_0f7a4_26 : decode cJ6_bitCount_0f7a4 26 = .ok (.iconst 4, 1) := by decide +kernel
theorem dJ6_bitCount_0f7a4_27 : decode cJ6_bitCount_0f7a4 27 = .ok (.iushr, 1) := by decide +kernel
theorem dJ6_bitCount_0f7a4_28 : decode cJ6_bitCount_0f7a4 28 = .ok (.iadd, 1) := by decide +kernel
theorem dJ6_bitCount_0f7a4_29 : decode cJ6_bitCount_0f7a4 29 = .ok (.ldc_w 267, 3) := by decide +kernel
theorem dJ6_bitCount_0f7a4_32 : decode cJ6_bitCount_0f7a4 32 = .ok (.iand, 1) := by decide +kernel
theorem dJ6_bitCount_0f7a4_33 : decode cJ6_bitCount_0f7a4 33 = .ok (.istore_n 0, 1) := by decide +kernel
theorem dJ6_bitCount_0f7a4_34 : decode cJ6_bitCount_0f7a4 34 = .ok (.iload_n 0, 1) := by decide +kernel
theorem dJ6_bitCount_0f7a4_35 : decode cJ6_bitCount_0f7a4 35 = .ok (.iload_n 0, 1) := by decide +kernel
theorem dJ6_bitCount_0f7a4_36 : decode cJ6_bitCount_0f7a4 36 = .ok (.bipush 8, 2) := by decide +kernel
theorem dJ6_bitCount_0f7a4_38 : decode cJ6_bitCount_0f7a4 38 = .ok (.iushr, 1) := by decide +kernel
theorem dJ6_bitCount_0f7a4_39 : decode cJ6_bitCount_0f7a4 39 = .ok (.iadd, 1) := by decide +kernel
theorem dJ6_bitCount_0f7a4_40 : decode cJ6_bitCount_0f7a4 40 = .ok (.istore_n 0, 1) := by decide +kernel
theorem dJ6_bitCount_0f7a4_41 : decode cJ6_bitCount_0f7a4 41 = .ok (.iload_n 0, 1) := by decide +kernel
theorem dJ6_bitCount_0f7a4_42 : decode cJ6_bitCount_0f7a4 42 = .ok (.iload_n 0, 1) := by decide +kernel
theorem dJ6_bitCount_0f7a4_43 : decode cJ6_bitCount_0f7a4 43 = .ok (.bipush 16, 2) := by decide +kernel
theorem dJ6_bitCount_0f7a4_45 : decode cJ6_bitCount_0f7a4 45 = .ok (.iushr, 1) := by decide +kernel
theorem dJ6_bitCount_0f7a4_46 : decode cJ6_bitCount_0f7a4 46 = .ok (.iadd, 1) := by decide +kernel
theorem dJ6_bitCount_0f7a4_47 : decode cJ6_bitCount_0f7a4 47 = .ok (.istore_n 0, 1) := by decide +kernel
theorem dJ6_bitCount_0f7a4_48 : decode cJ6_bitCount_0f7a4 48 = .ok (.iload_n 0, 1) := by decide +kernel
theorem dJ6_bitCount_0f7a4_49 : decode cJ6_bitCount_0f7a4 49 = .ok (.bipush 63, 2) := by decide +kernel
theorem dJ6_bitCount_0f7a4_51 : decode cJ6_bitCount_0f7a4 51 = .ok (.iand, 1) := by decide +kernel
theorem dJ6_bitCount_0f7a4_52 : decode cJ6_bitCount_0f7a4 52 = .ok (.ireturn, 1) := by decide +kernel
theorem dJ9_min_7cf53_0 : decode cJ9_min_7cf53 0 = .ok (.iload_n 0, 1) := by decide +kernel
theorem dJ9_min_7cf53_1 : decode cJ9_min_7cf53 1 = .ok (.iload_n 1, 1) := by decide +kernel
theorem dJ9_min_7cf53_2 : decode cJ9_min_7cf53 2 = .ok (.if_icmp .gt 7, 3) := by decide +kernel
theorem dJ9_min_7cf53_5 : decode cJ9_min_7cf53 5 = .ok (.iload_n 0, 1) := by decide +kernel
theorem dJ9_min_7cf53_6 : decode cJ9_min_7cf53 6 = .ok (.goto 4, 3) := by decide +kernel
theorem dJ9_min_7cf53_9 : decode cJ9_min_7cf53 9 = .ok (.iload_n 1, 1) := by decide +kernel
theorem dJ9_min_7cf53_10 : decode cJ9_min_7cf53 10 = .ok (.ireturn, 1) := by decide +kernel
theorem dJ0_length_8abf5_0 : decode cJ0_length_8abf5 0 = .ok (.aload_n 0, 1) := by decide +kernel
theorem dJ0_length_8abf5_1 : decode cJ0_length_8abf5 1 = .ok (.getfield 9, 3) := by decide +kernel
theorem dJ0_length_8abf5_4 : decode cJ0_length_8abf5 4 = .ok (.arraylength, 1) := by decide +kernel
theorem dJ0_length_8abf5_5 : decode cJ0_length_8abf5 5 = .ok (.aload_n 0, 1) := by decide +kernel
theorem dJ0_length_8abf5_6 : decode cJ0_length_8abf5 6 = .ok (.invokevirtual 335, 3) := by decide +kernel
theorem dJ0_length_8abf5_9 : decode cJ0_length_8abf5 9 = .ok (.ishr, 1) := by decide +kernel
theorem dJ0_length_8abf5_10 : decode cJ0_length_8abf5 10 = .ok (.ireturn, 1) := by decide +kernel
theorem dJ0_charAt_5068e_0 : decode cJ0_charAt_5068e 0 = .ok (.aload_n 0, 1) := by decide +kernel
theorem dJ0_charAt_5068e_1 : decode cJ0_charAt_5068e 1 = .ok (.invokevirtual 492, 3) := by decide +kernel
theorem dJ0_charAt_5068e_4 : decode cJ0_charAt_5068e 4 = .ok (.ifCond .eq 12, 3) := by decide +kernel
theorem dJ0_charAt_5068e_7 : decode cJ0_charAt_5068e 7 = .ok (.aload_n 0, 1) := by decide +kernel
theorem dJ0_charAt_5068e_8 : decode cJ0_charAt_5068e 8 = .ok (.getfield 9, 3) := by decide +kernel
theorem dJ0_charAt_5068e_11 : decode cJ0_charAt_5068e 11 = .ok (.iload_n 1, 1) := by decide +kernel
theorem dJ0_charAt_5068e_12 : decode cJ0_charAt_5068e 12 = .ok (.invokestatic 495, 3) := by decide +kernel
theorem dJ0_charAt_5068e_15 : decode cJ0_charAt_5068e 15 = .ok (.ireturn, 1) := by decide +kernel
theorem dJ0_charAt_5068e_16 : decode cJ0_charAt_5068e 16 = .ok (.aload_n 0, 1) := by decide +kernel
theorem dJ0_charAt_5068e_17 : decode cJ0_charAt_5068e 17 = .ok (.getfield 9, 3) := by decide +kernel
theorem dJ0_charAt_5068e_20 : decode cJ0_charAt_5068e 20 = .ok (.iload_n 1, 1) := by decide +kernel
theorem dJ0_charAt_5068e_21 : decode cJ0_charAt_5068e 21 = .ok (.invokestatic 498, 3) := by decide +kernel
theorem dJ0_charAt_5068e_24 : decode cJ0_charAt_5068e 24 = .ok (.ireturn, 1) := by decide +kernel
theorem dJ0_coder_7d493_0 : decode cJ0_coder_7d493 0 = .ok (.getstatic 38, 3) := by decide +kernel
theorem dJ0_coder_7d493_3 : decode cJ0_coder_7d493 3 = .ok (.ifCond .eq 10, 3) := by decide +kernel
theorem dJ0_coder_7d493_6 : decode cJ0_coder_7d493 6 = .ok (.aload_n 0, 1) := by decide +kernel
theorem dJ0_coder_7d493_7 : decode cJ0_coder_7d493 7 = .ok (.getfield 15, 3) := by decide +kernel
theorem dJ0_coder_7d493_10 : decode cJ0_coder_7d493 10 = .ok (.goto 4, 3) := by decide +kernel
theorem dJ0_coder_7d493_13 : decode cJ0_coder_7d493 13 = .ok (.iconst 1, 1) := by decide +kernel
theorem dJ0_coder_7d493_14 : decode cJ0_coder_7d493 14 = .ok (.ireturn, 1) := by decide +kernel
theorem dJ0_isLatin1_aae02_0 : decode cJ0_isLatin1_aae02 0 = .ok (.getstatic 38, 3) := by decide +kernel
theorem dJ0_isLatin1_aae02_3 : decode cJ0_isLatin1_aae02 3 = .ok (.ifCond .eq 14, 3) := by decide +kernel
theorem dJ0_isLatin1_aae02_6 : decode cJ0_isLatin1_aae02 6 = .ok (.aload_n 0, 1) := by decide +kernel
theorem dJ0_isLatin1_aae02_7 : decode cJ0_isLatin1_aae02 7 = .ok (.getfield 15, 3) := by decide +kernel
theorem dJ0_isLatin1_aae02_10 : decode cJ0_isLatin1_aae02 10 = .ok (.ifCond .ne 7, 3) := by decide +kernel
theorem dJ0_isLatin1_aae02_13 : decode cJ0_isLatin1_aae02 13 = .ok (.iconst 1, 1) := by decide +kernel
theorem dJ0_isLatin1_aae02_14 : decode cJ0_isLatin1_aae02 14 = .ok (.goto 4, 3) := by decide +kernel
theorem dJ0_isLatin1_aae02_17 : decode cJ0_isLatin1_aae02 17 = .ok (.iconst 0, 1) := by decide +kernel
theorem dJ0_isLatin1_aae02_18 : decode cJ0_isLatin1_aae02 18 = .ok (.ireturn, 1) := by decide +kernel
theorem dJ0_checkIndex_df160_0 : decode cJ0_checkIndex_df160 0 = .ok (.iload_n 0, 1) := by decide +kernel
theorem dJ0_checkIndex_df160_1 : decode cJ0_checkIndex_df160 1 = .ok (.iload_n 1, 1) := by decide +kernel
theorem dJ0_checkIndex_df160_2 : decode cJ0_checkIndex_df160 2 = .ok (.getstatic 1053, 3) := by decide +kernel
theorem dJ0_checkIndex_df160_5 : decode cJ0_checkIndex_df160 5 = .ok (.invokestatic 1059, 3) := by decide +kernel
theorem dJ0_checkIndex_df160_8 : decode cJ0_checkIndex_df160 8 = .ok (.pop, 1) := by decide +kernel
theorem dJ0_checkIndex_df160_9 : decode cJ0_checkIndex_df160 9 = .ok (.return_, 1) := by decide +kernel
theorem dJ1_charAt_3b067_0 : decode cJ1_charAt_3b067 0 = .ok (.iload_n 1, 1) := by decide +kernel
theorem dJ1_charAt_3b067_1 : decode cJ1_charAt_3b067 1 = .ok (.aload_n 0, 1) := by decide +kernel
theorem dJ1_charAt_3b067_2 : decode cJ1_charAt_3b067 2 = .ok (.arraylength, 1) := by decide +kernel
theorem dJ1_charAt_3b067_3 : decode cJ1_charAt_3b067 3 = .ok (.invokestatic 9, 3) := by decide +kernel
theorem dJ1_charAt_3b067_6 : decode cJ1_charAt_3b067 6 = .ok (.aload_n 0, 1) := by decide +kernel
theorem dJ1_charAt_3b067_7 : decode cJ1_charAt_3b067 7 = .ok (.iload_n 1, 1) := by decide +kernel
theorem dJ1_charAt_3b067_8 : decode cJ1_charAt_3b067 8 = .ok (.baload, 1) := by decide +kernel
theorem dJ1_charAt_3b067_9 : decode cJ1_charAt_3b067 9 = .ok (.sipush 255, 3) := by decide +kernel
theorem dJ1_charAt_3b067_12 : decode cJ1_charAt_3b067 12 = .ok (.iand, 1) := by decide +kernel
theorem dJ1_charAt_3b067_13 : decode cJ1_charAt_3b067 13 = .ok (.i2c, 1) := by decide +kernel
theorem dJ1_charAt_3b067_14 : decode cJ1_charAt_3b067 14 = .ok (.ireturn, 1) := by decide +kernel
theorem dJ7_fill_d0a16_0 : decode cJ7_fill_d0a16 0 = .ok (.iconst 0, 1) := by decide +kernel
theorem dJ7_fill_d0a16_1 : decode cJ7_fill_d0a16 1 = .ok (.istore_n 3, 1) := by decide +kernel
theorem dJ7_fill_d0a16_2 : decode cJ7_fill_d0a16 2 = .ok (.aload_n 0, 1) := by decide +kernel
theorem dJ7_fill_d0a16_3 : decode cJ7_fill_d0a16 3 = .ok (.arraylength, 1) := by decide +kernel
theorem dJ7_fill_d0a16_4 : decode cJ7_fill_d0a16 4 = .ok (.istore 4, 2) := by decide +kernel
theorem dJ7_fill_d0a16_6 : decode cJ7_fill_d0a16 6 = .ok (.iload_n 3, 1) := by decide +kernel
theorem dJ7_fill_d0a16_7 : decode cJ7_fill_d0a16 7 = .ok (.iload 4, 2) := by decide +kernel
theorem dJ7_fill_d0a16_9 : decode cJ7_fill_d0a16 9 = .ok (.if_icmp .ge 13, 3) := by decide +kernel
theorem dJ7_fill_d0a16_12 : decode cJ7_fill_d0a16 12 = .ok (.aload_n 0, 1) := by decide +kernel
theorem dJ7_fill_d0a16_13 : decode cJ7_fill_d0a16 13 = .ok (.iload_n 3, 1) := by decide +kernel
theorem dJ7_fill_d0a16_14 : decode cJ7_fill_d0a16 14 = .ok (.lload_n 1, 1) := by decide +kernel
theorem dJ7_fill_d0a16_15 : decode cJ7_fill_d0a16 15 = .ok (.lastore, 1) := by decide +kernel
theorem dJ7_fill_d0a16_16 : decode cJ7_fill_d0a16 16 = .ok (.iinc 3 1, 3) := by decide +kernel
theorem dJ7_fill_d0a16_19 : decode cJ7_fill_d0a16 19 = .ok (.goto (-13), 3) := by decide +kernel
theorem dJ7_fill_d0a16_22 : decode cJ7_fill_d0a16 22 = .ok (.return_, 1) := by decide +kernel
theorem dJ3_checkIndex_8e157_0 : decode cJ3_checkIndex_8e157 0 = .ok (.iload_n 0, 1) := by decide +kernel
theorem dJ3_checkIndex_8e157_1 : decode cJ3_checkIndex_8e157 1 = .ok (.ifCond .lt 8, 3) := by decide +kernel
theorem dJ3_checkIndex_8e157_4 : decode cJ3_checkIndex_8e157 4 = .ok (.iload_n 0, 1) := by decide +kernel
theorem dJ3_checkIndex_8e157_5 : decode cJ3_checkIndex_8e157 5 = .ok (.iload_n 1, 1) := by decide +kernel
theorem dJ3_checkIndex_8e157_6 : decode cJ3_checkIndex_8e157 6 = .ok (.if_icmp .lt 10, 3) := by decide +kernel
theorem dJ3_checkIndex_8e157_9 : decode cJ3_checkIndex_8e157 9 = .ok (.aload_n 2, 1) := by decide +kernel
theorem dJ3_checkIndex_8e157_10 : decode cJ3_checkIndex_8e157 10 = .ok (.iload_n 0, 1) := by decide +kernel
theorem dJ3_checkIndex_8e157_11 : decode cJ3_checkIndex_8e157 11 = .ok (.iload_n 1, 1) := by decide +kernel
theorem dJ3_checkIndex_8e157_12 : decode cJ3_checkIndex_8e157 12 = .ok (.invokestatic 95, 3) := by decide +kernel
theorem dJ3_checkIndex_8e157_15 : decode cJ3_checkIndex_8e157 15 = .ok (.athrow, 1) := by decide +kernel
theorem dJ3_checkIndex_8e157_16 : decode cJ3_checkIndex_8e157 16 = .ok (.iload_n 0, 1) := by decide +kernel
theorem dJ3_checkIndex_8e157_17 : decode cJ3_checkIndex_8e157 17 = .ok (.ireturn, 1) := by decide +kernel
