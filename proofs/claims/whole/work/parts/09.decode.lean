theorem dX0_init_0 : decode cX0_init 0 = .ok (.aload_n 0, 1) := by decide +kernel
theorem dX0_init_1 : decode cX0_init 1 = .ok (.iconst 3, 1) := by decide +kernel
theorem dX0_init_2 : decode cX0_init 2 = .ok (.iconst 0, 1) := by decide +kernel
theorem dX0_init_3 : decode cX0_init 3 = .ok (.invokespecial 3, 3) := by decide +kernel
theorem dX0_init_6 : decode cX0_init 6 = .ok (.return_, 1) := by decide +kernel
theorem dX0_shade_0 : decode cX0_shade 0 = .ok (.aload_n 0, 1) := by decide +kernel
theorem dX0_shade_1 : decode cX0_shade 1 = .ok (.iload_n 1, 1) := by decide +kernel
theorem dX0_shade_2 : decode cX0_shade 2 = .ok (.iload_n 3, 1) := by decide +kernel
theorem dX0_shade_3 : decode cX0_shade 3 = .ok (.invokevirtual 9, 3) := by decide +kernel
theorem dX0_shade_6 : decode cX0_shade 6 = .ok (.istore 4, 2) := by decide +kernel
theorem dX0_shade_8 : decode cX0_shade 8 = .ok (.iload_n 2, 1) := by decide +kernel
theorem dX0_shade_9 : decode cX0_shade 9 = .ok (.iload 4, 2) := by decide +kernel
theorem dX0_shade_11 : decode cX0_shade 11 = .ok (.invokestatic 15, 3) := by decide +kernel
theorem dX0_shade_14 : decode cX0_shade 14 = .ok (.iload_n 2, 1) := by decide +kernel
theorem dX0_shade_15 : decode cX0_shade 15 = .ok (.iload 4, 2) := by decide +kernel
theorem dX0_shade_17 : decode cX0_shade 17 = .ok (.invokestatic 18, 3) := by decide +kernel
theorem dX0_shade_20 : decode cX0_shade 20 = .ok (.ior, 1) := by decide +kernel
theorem dX0_shade_21 : decode cX0_shade 21 = .ok (.ireturn, 1) := by decide +kernel
theorem dX1_init_0 : decode cX1_init 0 = .ok (.aload_n 0, 1) := by decide +kernel
theorem dX1_init_1 : decode cX1_init 1 = .ok (.invokespecial 3, 3) := by decide +kernel
theorem dX1_init_4 : decode cX1_init 4 = .ok (.aload_n 0, 1) := by decide +kernel
theorem dX1_init_5 : decode cX1_init 5 = .ok (.iconst 5, 1) := by decide +kernel
theorem dX1_init_6 : decode cX1_init 6 = .ok (.anewarray 9, 3) := by decide +kernel
theorem dX1_init_9 : decode cX1_init 9 = .ok (.putfield 11, 3) := by decide +kernel
theorem dX1_init_12 : decode cX1_init 12 = .ok (.aload_n 0, 1) := by decide +kernel
theorem dX1_init_13 : decode cX1_init 13 = .ok (.iconst 5, 1) := by decide +kernel
theorem dX1_init_14 : decode cX1_init 14 = .ok (.newarray .int, 2) := by decide +kernel
theorem dX1_init_16 : decode cX1_init 16 = .ok (.putfield 17, 3) := by decide +kernel
theorem dX1_init_19 : decode cX1_init 19 = .ok (.aload_n 0, 1) := by decide +kernel
theorem dX1_init_20 : decode cX1_init 20 = .ok (.iconst 5, 1) := by decide +kernel
theorem dX1_init_21 : decode cX1_init 21 = .ok (.newarray .int, 2) := by decide +kernel
theorem dX1_init_23 : decode cX1_init 23 = .ok (.putfield 21, 3) := by decide +kernel
theorem dX1_init_26 : decode cX1_init 26 = .ok (.aload_n 0, 1) := by decide +kernel
theorem dX1_init_27 : decode cX1_init 27 = .ok (.bipush 10, 2) := by decide +kernel
theorem dX1_init_29 : decode cX1_init 29 = .ok (.newarray .int, 2) := by decide +kernel
theorem dX1_init_31 : decode cX1_init 31 = .ok (.putfield 24, 3) := by decide +kernel
theorem dX1_init_34 : decode cX1_init 34 = .ok (.aload_n 0, 1) := by decide +kernel
theorem dX1_init_35 : decode cX1_init 35 = .ok (.iconst 5, 1) := by decide +kernel
theorem dX1_init_36 : decode cX1_init 36 = .ok (.newarray .int, 2) := by decide +kernel
theorem dX1_init_38 : decode cX1_init 38 = .ok (.putfield 27, 3) := by decide +kernel
theorem dX1_init_41 : decode cX1_init 41 = .ok (.aload_n 0, 1) := by decide +kernel
theorem dX1_init_42 : decode cX1_init 42 = .ok (.iconst 5, 1) := by decide +kernel
theorem dX1_init_43 : decode cX1_init 43 = .ok (.newarray .int, 2) := by decide +kernel
theorem dX1_init_45 : decode cX1_init 45 = .ok (.putfield 30, 3) := by decide +kernel
theorem dX1_init_48 : decode cX1_init 48 = .ok (.aload_n 0, 1) := by decide +kernel
theorem dX1_init_49 : decode cX1_init 49 = .ok (.bipush 8, 2) := by decide +kernel
theorem dX1_init_51 : decode cX1_init 51 = .ok (.newarray .int, 2) := by decide +kernel
theorem dX1_init_53 : decode cX1_init 53 = .ok (.putfield 33, 3) := by decide +kernel
theorem dX1_init_56 : decode cX1_init 56 = .ok (.aload_n 0, 1) := by decide +kernel
theorem dX1_init_57 : decode cX1_init 57 = .ok (.bipush 8, 2) := by decide +kernel
theorem dX1_init_59 : decode cX1_init 59 = .ok (.newarray .int, 2) := by decide +kernel
theorem dX1_init_61 : decode cX1_init 61 = .ok (.putfield 36, 3) := by decide +kernel
theorem dX1_init_64 : decode cX1_init 64 = .ok (.aload_n 0, 1) := by decide +kernel
theorem dX1_init_65 : decode cX1_init 65 = .ok (.bipush 8, 2) := by decide +kernel
theorem dX1_init_67 : decode cX1_init 67 = .ok (.newarray .int, 2) := by decide +kernel
theorem dX1_init_69 : decode cX1_init 69 = .ok (.putfield 39, 3) := by decide +kernel
theorem dX1_init_72 : decode cX1_init 72 = .ok (.aload_n 0, 1) := by decide +kernel
theorem dX1_init_73 : decode cX1_init 73 = .ok (.bipush 8, 2) := by decide +kernel
theorem dX1_init_75 : decode cX1_init 75 = .ok (.newarray .int, 2) := by decide +kernel
theorem dX1_init_77 : decode cX1_init 77 = .ok (.putfield 42, 3) := by decide +kernel
theorem dX1_init_80 : decode cX1_init 80 = .ok (.return_, 1) := by decide +kernel
theorem dX1_read_0 : decode cX1_read 0 = .ok (.iconst 0, 1) := by decide +kernel
theorem dX1_read_1 : decode cX1_read 1 = .ok (.istore_n 2, 1) := by decide +kernel
theorem dX1_read_2 : decode cX1_read 2 = .ok (.iload_n 2, 1) := by decide +kernel
theorem dX1_read_3 : decode cX1_read 3 = .ok (.bipush 10, 2) := by decide +kernel
theorem dX1_read_5 : decode cX1_read 5 = .ok (.if_icmp .ge 24, 3) := by decide +kernel
theorem dX1_read_8 : decode cX1_read 8 = .ok (.aload_n 0, 1) := by decide +kernel
theorem dX1_read_9 : decode cX1_read 9 = .ok (.getfield 24, 3) := by decide +kernel
theorem dX1_read_12 : decode cX1_read 12 = .ok (.iload_n 2, 1) := by decide +kernel
theorem dX1_read_13 : decode cX1_read 13 = .ok (.aload_n 1, 1) := by decide +kernel
theorem dX1_read_14 : decode cX1_read 14 = .ok (.getfield 45, 3) := by decide +kernel
theorem dX1_read_17 : decode cX1_read 17 = .ok (.iload_n 2, 1) := by decide +kernel
theorem dX1_read_18 : decode cX1_read 18 = .ok (.caload, 1) := by decide +kernel
theorem dX1_read_19 : decode cX1_read 19 = .ok (.bipush 48, 2) := by decide +kernel
theorem dX1_read_21 : decode cX1_read 21 = .ok (.isub, 1) := by decide +kernel
theorem dX1_read_22 : decode cX1_read 22 = .ok (.iastore, 1) := by decide +kernel
theorem dX1_read_23 : decode cX1_read 23 = .ok (.iinc 2 1, 3) := by decide +kernel
theorem dX1_read_26 : decode cX1_read 26 = .ok (.goto (-24), 3) := by decide +kernel
theorem dX1_read_29 : decode cX1_read 29 = .ok (.aload_n 0, 1) := by decide +kernel
theorem dX1_read_30 : decode cX1_read 30 = .ok (.aload_n 1, 1) := by decide +kernel
theorem dX1_read_31 : decode cX1_read 31 = .ok (.invokevirtual 51, 3) := by decide +kernel
theorem dX1_read_34 : decode cX1_read 34 = .ok (.iconst 5, 1) := by decide +kernel
theorem dX1_read_35 : decode cX1_read 35 = .ok (.invokestatic 55, 3) := by decide +kernel
theorem dX1_read_38 : decode cX1_read 38 = .ok (.putfield 61, 3) := by decide +kernel
theorem dX1_read_41 : decode cX1_read 41 = .ok (.iconst 0, 1) := by decide +kernel
theorem dX1_read_42 : decode cX1_read 42 = .ok (.istore_n 2, 1) := by decide +kernel
theorem dX1_read_43 : decode cX1_read 43 = .ok (.iload_n 2, 1) := by decide +kernel
theorem dX1_read_44 : decode cX1_read 44 = .ok (.aload_n 0, 1) := by decide +kernel
theorem dX1_read_45 : decode cX1_read 45 = .ok (.getfield 61, 3) := by decide +kernel
theorem dX1_read_48 : decode cX1_read 48 = .ok (.if_icmp .ge 44, 3) := by decide +kernel
theorem dX1_read_51 : decode cX1_read 51 = .ok (.aload_n 0, 1) := by decide +kernel
theorem dX1_read_52 : decode cX1_read 52 = .ok (.getfield 11, 3) := by decide +kernel
theorem dX1_read_55 : decode cX1_read 55 = .ok (.iload_n 2, 1) := by decide +kernel
theorem dX1_read_56 : decode cX1_read 56 = .ok (.aload_n 1, 1) := by decide +kernel
theorem dX1_read_57 : decode cX1_read 57 = .ok (.iload_n 2, 1) := by decide +kernel
theorem dX1_read_58 : decode cX1_read 58 = .ok (.invokevirtual 64, 3) := by decide +kernel
theorem dX1_read_61 : decode cX1_read 61 = .ok (.aastore, 1) := by decide +kernel
theorem dX1_read_62 : decode cX1_read 62 = .ok (.aload_n 0, 1) := by decide +kernel
theorem dX1_read_63 : decode cX1_read 63 = .ok (.getfield 17, 3) := by decide +kernel
theorem dX1_read_66 : decode cX1_read 66 = .ok (.iload_n 2, 1) := by decide +kernel
theorem dX1_read_67 : decode cX1_read 67 = .ok (.aload_n 1, 1) := by decide +kernel
theorem dX1_read_68 : decode cX1_read 68 = .ok (.iload_n 2, 1) := by decide +kernel
theorem dX1_read_69 : decode cX1_read 69 = .ok (.iconst 1, 1) := by decide +kernel
theorem dX1_read_70 : decode cX1_read 70 = .ok (.invokevirtual 68, 3) := by decide +kernel
theorem dX1_read_73 : decode cX1_read 73 = .ok (.iastore, 1) := by decide +kernel
theorem dX1_read_74 : decode cX1_read 74 = .ok (.aload_n 0, 1) := by decide +kernel
theorem dX1_read_75 : decode cX1_read 75 = .ok (.getfield 21, 3) := by decide +kernel
theorem dX1_read_78 : decode cX1_read 78 = .ok (.iload_n 2, 1) := by decide +kernel
theorem dX1_read_79 : decode cX1_read 79 = .ok (.aload_n 1, 1) := by decide +kernel
theorem dX1_read_80 : decode cX1_read 80 = .ok (.iload_n 2, 1) := by decide +kernel
theorem dX1_read_81 : decode cX1_read 81 = .ok (.iconst 2, 1) := by decide +kernel
theorem dX1_read_82 : decode cX1_read 82 = .ok (.invokevirtual 68, 3) := by decide +kernel
theorem dX1_read_85 : decode cX1_read 85 = .ok (.iastore, 1) := by decide +kernel
theorem dX1_read_86 : decode cX1_read 86 = .ok (.iinc 2 1, 3) := by decide +kernel
theorem dX1_read_89 : decode cX1_read 89 = .ok (.goto (-46), 3) := by decide +kernel
theorem dX1_read_92 : decode cX1_read 92 = .ok (.aload_n 0, 1) := by decide +kernel
theorem dX1_read_93 : decode cX1_read 93 = .ok (.iconst 0, 1) := by decide +kernel
theorem dX1_read_94 : decode cX1_read 94 = .ok (.putfield 71, 3) := by decide +kernel
theorem dX1_read_97 : decode cX1_read 97 = .ok (.aload_n 0, 1) := by decide +kernel
theorem dX1_read_98 : decode cX1_read 98 = .ok (.iconst 0, 1) := by decide +kernel
theorem dX1_read_99 : decode cX1_read 99 = .ok (.putfield 74, 3) := by decide +kernel
theorem dX1_read_102 : decode cX1_read 102 = .ok (.aload_n 0, 1) := by decide +kernel
theorem dX1_read_103 : decode cX1_read 103 = .ok (.iconst 0, 1) := by decide +kernel
theorem dX1_read_104 : decode cX1_read 104 = .ok (.putfield 77, 3) := by decide +kernel
theorem dX1_read_107 : decode cX1_read 107 = .ok (.aload_n 0, 1) := by decide +kernel
theorem dX1_read_108 : decode cX1_read 108 = .ok (.iconst 0, 1) := by decide +kernel
theorem dX1_read_109 : decode cX1_read 109 = .ok (.putfield 80, 3) := by decide +kernel
theorem dX1_read_112 : decode cX1_read 112 = .ok (.return_, 1) := by decide +kernel
theorem dX1_keepAllOf_0 : decode cX1_keepAllOf 0 = .ok (.aload_n 1, 1) := by decide +kernel
theorem dX1_keepAllOf_1 : decode cX1_keepAllOf 1 = .ok (.getfield 17, 3) := by decide +kernel
theorem dX1_keepAllOf_4 : decode cX1_keepAllOf 4 = .ok (.aload_n 0, 1) := by decide +kernel
theorem dX1_keepAllOf_5 : decode cX1_keepAllOf 5 = .ok (.getfield 17, 3) := by decide +kernel
theorem dX1_keepAllOf_8 : decode cX1_keepAllOf 8 = .ok (.invokestatic 83, 3) := by decide +kernel
theorem dX1_keepAllOf_11 : decode cX1_keepAllOf 11 = .ok (.aload_n 1, 1) := by decide +kernel
theorem dX1_keepAllOf_12 : decode cX1_keepAllOf 12 = .ok (.getfield 21, 3) := by decide +kernel
theorem dX1_keepAllOf_15 : decode cX1_keepAllOf 15 = .ok (.aload_n 0, 1) := by decide +kernel
theorem dX1_keepAllOf_16 : decode cX1_keepAllOf 16 = .ok (.getfield 21, 3) := by decide +kernel
theorem dX1_keepAllOf_19 : decode cX1_keepAllOf 19 = .ok (.invokestatic 83, 3) := by decide +kernel
theorem dX1_keepAllOf_22 : decode cX1_keepAllOf 22 = .ok (.aload_n 1, 1) := by decide +kernel
theorem dX1_keepAllOf_23 : decode cX1_keepAllOf 23 = .ok (.getfield 24, 3) := by decide +kernel
theorem dX1_keepAllOf_26 : decode cX1_keepAllOf 26 = .ok (.aload_n 0, 1) := by decide +kernel
theorem dX1_keepAllOf_27 : decode cX1_keepAllOf 27 = .ok (.getfield 24, 3) := by decide +kernel
theorem dX1_keepAllOf_30 : decode cX1_keepAllOf 30 = .ok (.invokestatic 83, 3) := by decide +kernel
theorem dX1_keepAllOf_33 : decode cX1_keepAllOf 33 = .ok (.aload_n 0, 1) := by decide +kernel
theorem dX1_keepAllOf_34 : decode cX1_keepAllOf 34 = .ok (.aload_n 1, 1) := by decide +kernel
theorem dX1_keepAllOf_35 : decode cX1_keepAllOf 35 = .ok (.getfield 71, 3) := by decide +kernel
theorem dX1_keepAllOf_38 : decode cX1_keepAllOf 38 = .ok (.putfield 71, 3) := by decide +kernel
theorem dX1_keepAllOf_41 : decode cX1_keepAllOf 41 = .ok (.aload_n 0, 1) := by decide +kernel
theorem dX1_keepAllOf_42 : decode cX1_keepAllOf 42 = .ok (.aload_n 1, 1) := by decide +kernel
theorem dX1_keepAllOf_43 : decode cX1_keepAllOf 43 = .ok (.getfield 74, 3) := by decide +kernel
theorem dX1_keepAllOf_46 : decode cX1_keepAllOf 46 = .ok (.putfield 74, 3) := by decide +kernel
theorem dX1_keepAllOf_49 : decode cX1_keepAllOf 49 = .ok (.aload_n 0, 1) := by decide +kernel
theorem dX1_keepAllOf_50 : decode cX1_keepAllOf 50 = .ok (.aload_n 1, 1) := by decide +kernel
theorem dX1_keepAllOf_51 : decode cX1_keepAllOf 51 = .ok (.getfield 77, 3) := by decide +kernel
theorem dX1_keepAllOf_54 : decode cX1_keepAllOf 54 = .ok (.putfield 77, 3) := by decide +kernel
theorem dX1_keepAllOf_57 : decode cX1_keepAllOf 57 = .ok (.aload_n 1, 1) := by decide +kernel
theorem dX1_keepAllOf_58 : decode cX1_keepAllOf 58 = .ok (.getfield 27, 3) := by decide +kernel
theorem dX1_keepAllOf_61 : decode cX1_keepAllOf 61 = .ok (.aload_n 0, 1) := by decide +kernel
theorem dX1_keepAllOf_62 : decode cX1_keepAllOf 62 = .ok (.getfield 27, 3) := by decide +kernel
theorem dX1_keepAllOf_65 : decode cX1_keepAllOf 65 = .ok (.invokestatic 83, 3) := by decide +kernel
theorem dX1_keepAllOf_68 : decode cX1_keepAllOf 68 = .ok (.aload_n 1, 1) := by decide +kernel
theorem dX1_keepAllOf_69 : decode cX1_keepAllOf 69 = .ok (.getfield 30, 3) := by decide +kernel
theorem dX1_keepAllOf_72 : decode cX1_keepAllOf 72 = .ok (.aload_n 0, 1) := by decide +kernel
theorem dX1_keepAllOf_73 : decode cX1_keepAllOf 73 = .ok (.getfield 30, 3) := by decide +kernel
theorem dX1_keepAllOf_76 : decode cX1_keepAllOf 76 = .ok (.invokestatic 83, 3) := by decide +kernel
theorem dX1_keepAllOf_79 : decode cX1_keepAllOf 79 = .ok (.aload_n 0, 1) := by decide +kernel
theorem dX1_keepAllOf_80 : decode cX1_keepAllOf 80 = .ok (.aload_n 1, 1) := by decide +kernel
theorem dX1_keepAllOf_81 : decode cX1_keepAllOf 81 = .ok (.getfield 80, 3) := by decide +kernel
theorem dX1_keepAllOf_84 : decode cX1_keepAllOf 84 = .ok (.putfield 80, 3) := by decide +kernel
theorem dX1_keepAllOf_87 : decode cX1_keepAllOf 87 = .ok (.aload_n 1, 1) := by decide +kernel
theorem dX1_keepAllOf_88 : decode cX1_keepAllOf 88 = .ok (.getfield 33, 3) := by decide +kernel
theorem dX1_keepAllOf_91 : decode cX1_keepAllOf 91 = .ok (.aload_n 0, 1) := by decide +kernel
theorem dX1_keepAllOf_92 : decode cX1_keepAllOf 92 = .ok (.getfield 33, 3) := by decide +kernel
theorem dX1_keepAllOf_95 : decode cX1_keepAllOf 95 = .ok (.invokestatic 83, 3) := by decide +kernel
theorem dX1_keepAllOf_98 : decode cX1_keepAllOf 98 = .ok (.aload_n 1, 1) := by decide +kernel
theorem dX1_keepAllOf_99 : decode cX1_keepAllOf 99 = .ok (.getfield 36, 3) := by decide +kernel
theorem dX1_keepAllOf_102 : decode cX1_keepAllOf 102 = .ok (.aload_n 0, 1) := by decide +kernel
theorem dX1_keepAllOf_103 : decode cX1_keepAllOf 103 = .ok (.getfield 36, 3) := by decide +kernel
theorem dX1_keepAllOf_106 : decode cX1_keepAllOf 106 = .ok (.invokestatic 83, 3) := by decide +kernel
theorem dX1_keepAllOf_109 : decode cX1_keepAllOf 109 = .ok (.aload_n 1, 1) := by decide +kernel
theorem dX1_keepAllOf_110 : decode cX1_keepAllOf 110 = .ok (.getfield 39, 3) := by decide +kernel
theorem dX1_keepAllOf_113 : decode cX1_keepAllOf 113 = .ok (.aload_n 0, 1) := by decide +kernel
theorem dX1_keepAllOf_114 : decode cX1_keepAllOf 114 = .ok (.getfield 39, 3) := by decide +kernel
theorem dX1_keepAllOf_117 : decode cX1_keepAllOf 117 = .ok (.invokestatic 83, 3) := by decide +kernel
theorem dX1_keepAllOf_120 : decode cX1_keepAllOf 120 = .ok (.aload_n 1, 1) := by decide +kernel
theorem dX1_keepAllOf_121 : decode cX1_keepAllOf 121 = .ok (.getfield 42, 3) := by decide +kernel
theorem dX1_keepAllOf_124 : decode cX1_keepAllOf 124 = .ok (.aload_n 0, 1) := by decide +kernel
theorem dX1_keepAllOf_125 : decode cX1_keepAllOf 125 = .ok (.getfield 42, 3) := by decide +kernel
theorem dX1_keepAllOf_128 : decode cX1_keepAllOf 128 = .ok (.invokestatic 83, 3) := by decide +kernel
theorem dX1_keepAllOf_131 : decode cX1_keepAllOf 131 = .ok (.return_, 1) := by decide +kernel
theorem dX1_copy_0 : decode cX1_copy 0 = .ok (.aload_n 0, 1) := by decide +kernel
theorem dX1_copy_1 : decode cX1_copy 1 = .ok (.iconst 0, 1) := by decide +kernel
theorem dX1_copy_2 : decode cX1_copy 2 = .ok (.aload_n 1, 1) := by decide +kernel
theorem dX1_copy_3 : decode cX1_copy 3 = .ok (.iconst 0, 1) := by decide +kernel
theorem dX1_copy_4 : decode cX1_copy 4 = .ok (.aload_n 0, 1) := by decide +kernel
theorem dX1_copy_5 : decode cX1_copy 5 = .ok (.arraylength, 1) := by decide +kernel
theorem dX1_copy_6 : decode cX1_copy 6 = .ok (.aload_n 1, 1) := by decide +kernel
theorem dX1_copy_7 : decode cX1_copy 7 = .ok (.arraylength, 1) := by decide +kernel
theorem dX1_copy_8 : decode cX1_copy 8 = .ok (.invokestatic 55, 3) := by decide +kernel
theorem dX1_copy_11 : decode cX1_copy 11 = .ok (.invokestatic 87, 3) := by decide +kernel
theorem dX1_copy_14 : decode cX1_copy 14 = .ok (.return_, 1) := by decide +kernel
theorem dX1_isNone_0 : decode cX1_isNone 0 = .ok (.aload_n 0, 1) := by decide +kernel
theorem dX1_isNone_1 : decode cX1_isNone 1 = .ok (.getfield 61, 3) := by decide +kernel
theorem dX1_isNone_4 : decode cX1_isNone 4 = .ok (.ifCond .ne 7, 3) := by decide +kernel
theorem dX1_isNone_7 : decode cX1_isNone 7 = .ok (.iconst 1, 1) := by decide +kernel
theorem dX1_isNone_8 : decode cX1_isNone 8 = .ok (.goto 4, 3) := by decide +kernel
theorem dX1_isNone_11 : decode cX1_isNone 11 = .ok (.iconst 0, 1) := by decide +kernel
theorem dX1_isNone_12 : decode cX1_isNone 12 = .ok (.ireturn, 1) := by decide +kernel
theorem dX1_has_0 : decode cX1_has 0 = .ok (.iload_n 1, 1) := by decide +kernel
theorem dX1_has_1 : decode cX1_has 1 = .ok (.ifCond .lt 24, 3) := by decide +kernel
theorem dX1_has_4 : decode cX1_has 4 = .ok (.iload_n 1, 1) := by decide +kernel
theorem dX1_has_5 : decode cX1_has 5 = .ok (.aload_n 0, 1) := by decide +kernel
theorem dX1_has_6 : decode cX1_has 6 = .ok (.getfield 61, 3) := by decide +kernel
theorem dX1_has_9 : decode cX1_has 9 = .ok (.if_icmp .ge 16, 3) := by decide +kernel
theorem dX1_has_12 : decode cX1_has 12 = .ok (.aload_n 0, 1) := by decide +kernel
theorem dX1_has_13 : decode cX1_has 13 = .ok (.getfield 11, 3) := by decide +kernel
theorem dX1_has_16 : decode cX1_has 16 = .ok (.iload_n 1, 1) := by decide +kernel
theorem dX1_has_17 : decode cX1_has 17 = .ok (.aaload, 1) := by decide +kernel
theorem dX1_has_18 : decode cX1_has 18 = .ok (.ifnull 7, 3) := by decide +kernel
theorem dX1_has_21 : decode cX1_has 21 = .ok (.iconst 1, 1) := by decide +kernel
theorem dX1_has_22 : decode cX1_has 22 = .ok (.goto 4, 3) := by decide +kernel
theorem dX1_has_25 : decode cX1_has 25 = .ok (.iconst 0, 1) := by decide +kernel
theorem dX1_has_26 : decode cX1_has 26 = .ok (.ireturn, 1) := by decide +kernel
theorem dX1_hasTwo_0 : decode cX1_hasTwo 0 = .ok (.aload_n 0, 1) := by decide +kernel
theorem dX1_hasTwo_1 : decode cX1_hasTwo 1 = .ok (.iload_n 1, 1) := by decide +kernel
theorem dX1_hasTwo_2 : decode cX1_hasTwo 2 = .ok (.invokevirtual 93, 3) := by decide +kernel
theorem dX1_hasTwo_5 : decode cX1_hasTwo 5 = .ok (.ifCond .eq 20, 3) := by decide +kernel
theorem dX1_hasTwo_8 : decode cX1_hasTwo 8 = .ok (.aload_n 0, 1) := by decide +kernel
theorem dX1_hasTwo_9 : decode cX1_hasTwo 9 = .ok (.iload_n 2, 1) := by decide +kernel
theorem dX1_hasTwo_10 : decode cX1_hasTwo 10 = .ok (.invokevirtual 93, 3) := by decide +kernel
theorem dX1_hasTwo_13 : decode cX1_hasTwo 13 = .ok (.ifCond .eq 12, 3) := by decide +kernel
theorem dX1_hasTwo_16 : decode cX1_hasTwo 16 = .ok (.iload_n 1, 1) := by decide +kernel
theorem dX1_hasTwo_17 : decode cX1_hasTwo 17 = .ok (.iload_n 2, 1) := by decide +kernel
theorem dX1_hasTwo_18 : decode cX1_hasTwo 18 = .ok (.if_icmp .eq 7, 3) := by decide +kernel
theorem dX1_hasTwo_21 : decode cX1_hasTwo 21 = .ok (.iconst 1, 1) := by decide +kernel
theorem dX1_hasTwo_22 : decode cX1_hasTwo 22 = .ok (.goto 4, 3) := by decide +kernel
theorem dX1_hasTwo_25 : decode cX1_hasTwo 25 = .ok (.iconst 0, 1) := by decide +kernel
theorem dX1_hasTwo_26 : decode cX1_hasTwo 26 = .ok (.ireturn, 1) := by decide +kernel
theorem dX1_hasTile_0 : decode cX1_hasTile 0 = .ok (.aload_n 0, 1) := by decide +kernel
theorem dX1_hasTile_1 : decode cX1_hasTile 1 = .ok (.invokevirtual 97, 3) := by decide +kernel
theorem dX1_hasTile_4 : decode cX1_hasTile 4 = .ok (.ifCond .ne 14, 3) := by decide +kernel
theorem dX1_hasTile_7 : decode cX1_hasTile 7 = .ok (.iload_n 1, 1) := by decide +kernel
theorem dX1_hasTile_8 : decode cX1_hasTile 8 = .ok (.invokestatic 101, 3) := by decide +kernel
theorem dX1_hasTile_11 : decode cX1_hasTile 11 = .ok (.ifCond .eq 7, 3) := by decide +kernel
theorem dX1_hasTile_14 : decode cX1_hasTile 14 = .ok (.iconst 1, 1) := by decide +kernel
theorem dX1_hasTile_15 : decode cX1_hasTile 15 = .ok (.goto 4, 3) := by decide +kernel
theorem dX1_hasTile_18 : decode cX1_hasTile 18 = .ok (.iconst 0, 1) := by decide +kernel
theorem dX1_hasTile_19 : decode cX1_hasTile 19 = .ok (.ireturn, 1) := by decide +kernel
theorem dX1_hoursInAll_0 : decode cX1_hoursInAll 0 = .ok (.aload_n 0, 1) := by decide +kernel
theorem dX1_hoursInAll_1 : decode cX1_hoursInAll 1 = .ok (.getfield 74, 3) := by decide +kernel
theorem dX1_hoursInAll_4 : decode cX1_hoursInAll 4 = .ok (.bipush 13, 2) := by decide +kernel
theorem dX1_hoursInAll_6 : decode cX1_hoursInAll 6 = .ok (.imul, 1) := by decide +kernel
theorem dX1_hoursInAll_7 : decode cX1_hoursInAll 7 = .ok (.aload_n 0, 1) := by decide +kernel
theorem dX1_hoursInAll_8 : decode cX1_hoursInAll 8 = .ok (.getfield 71, 3) := by decide +kernel
theorem dX1_hoursInAll_11 : decode cX1_hoursInAll 11 = .ok (.iadd, 1) := by decide +kernel
theorem dX1_hoursInAll_12 : decode cX1_hoursInAll 12 = .ok (.ireturn, 1) := by decide +kernel
theorem dX1_shade_0 : decode cX1_shade 0 = .ok (.aload_n 0, 1) := by decide +kernel
theorem dX1_shade_1 : decode cX1_shade 1 = .ok (.iload_n 1, 1) := by decide +kernel
theorem dX1_shade_2 : decode cX1_shade 2 = .ok (.invokevirtual 93, 3) := by decide +kernel
theorem dX1_shade_5 : decode cX1_shade 5 = .ok (.ifCond .eq 28, 3) := by decide +kernel
theorem dX1_shade_8 : decode cX1_shade 8 = .ok (.aload_n 0, 1) := by decide +kernel
theorem dX1_shade_9 : decode cX1_shade 9 = .ok (.getfield 11, 3) := by decide +kernel
theorem dX1_shade_12 : decode cX1_shade 12 = .ok (.iload_n 1, 1) := by decide +kernel
theorem dX1_shade_13 : decode cX1_shade 13 = .ok (.aaload, 1) := by decide +kernel
theorem dX1_shade_14 : decode cX1_shade 14 = .ok (.aload_n 0, 1) := by decide +kernel
theorem dX1_shade_15 : decode cX1_shade 15 = .ok (.getfield 17, 3) := by decide +kernel
theorem dX1_shade_18 : decode cX1_shade 18 = .ok (.iload_n 1, 1) := by decide +kernel
theorem dX1_shade_19 : decode cX1_shade 19 = .ok (.iaload, 1) := by decide +kernel
theorem dX1_shade_20 : decode cX1_shade 20 = .ok (.aload_n 0, 1) := by decide +kernel
theorem dX1_shade_21 : decode cX1_shade 21 = .ok (.getfield 21, 3) := by decide +kernel
theorem dX1_shade_24 : decode cX1_shade 24 = .ok (.iload_n 1, 1) := by decide +kernel
theorem dX1_shade_25 : decode cX1_shade 25 = .ok (.iaload, 1) := by decide +kernel
theorem dX1_shade_26 : decode cX1_shade 26 = .ok (.iload_n 2, 1) := by decide +kernel
theorem dX1_shade_27 : decode cX1_shade 27 = .ok (.invokevirtual 104, 3) := by decide +kernel
theorem dX1_shade_30 : decode cX1_shade 30 = .ok (.goto 4, 3) := by decide +kernel
theorem dX1_shade_33 : decode cX1_shade 33 = .ok (.iconst 0, 1) := by decide +kernel
theorem dX1_shade_34 : decode cX1_shade 34 = .ok (.ireturn, 1) := by decide +kernel
theorem dX1_shadeIf_0 : decode cX1_shadeIf 0 = .ok (.aload_n 0, 1) := by decide +kernel
theorem dX1_shadeIf_1 : decode cX1_shadeIf 1 = .ok (.iload_n 1, 1) := by decide +kernel
theorem dX1_shadeIf_2 : decode cX1_shadeIf 2 = .ok (.invokevirtual 93, 3) := by decide +kernel
theorem dX1_shadeIf_5 : decode cX1_shadeIf 5 = .ok (.ifCond .eq 19, 3) := by decide +kernel
theorem dX1_shadeIf_8 : decode cX1_shadeIf 8 = .ok (.aload_n 0, 1) := by decide +kernel
theorem dX1_shadeIf_9 : decode cX1_shadeIf 9 = .ok (.getfield 11, 3) := by decide +kernel
theorem dX1_shadeIf_12 : decode cX1_shadeIf 12 = .ok (.iload_n 1, 1) := by decide +kernel
theorem dX1_shadeIf_13 : decode cX1_shadeIf 13 = .ok (.aaload, 1) := by decide +kernel
theorem dX1_shadeIf_14 : decode cX1_shadeIf 14 = .ok (.iload_n 2, 1) := by decide +kernel
theorem dX1_shadeIf_15 : decode cX1_shadeIf 15 = .ok (.iload_n 3, 1) := by decide +kernel
theorem dX1_shadeIf_16 : decode cX1_shadeIf 16 = .ok (.iload 4, 2) := by decide +kernel
theorem dX1_shadeIf_18 : decode cX1_shadeIf 18 = .ok (.invokevirtual 104, 3) := by decide +kernel
theorem dX1_shadeIf_21 : decode cX1_shadeIf 21 = .ok (.goto 4, 3) := by decide +kernel
theorem dX1_shadeIf_24 : decode cX1_shadeIf 24 = .ok (.iconst 0, 1) := by decide +kernel
theorem dX1_shadeIf_25 : decode cX1_shadeIf 25 = .ok (.ireturn, 1) := by decide +kernel
theorem dX1_worthOf_0 : decode cX1_worthOf 0 = .ok (.iconst 0, 1) := by decide +kernel
theorem dX1_worthOf_1 : decode cX1_worthOf 1 = .ok (.istore_n 2, 1) := by decide +kernel
theorem dX1_worthOf_2 : decode cX1_worthOf 2 = .ok (.iconst 0, 1) := by decide +kernel
theorem dX1_worthOf_3 : decode cX1_worthOf 3 = .ok (.istore_n 3, 1) := by decide +kernel
theorem dX1_worthOf_4 : decode cX1_worthOf 4 = .ok (.iload_n 3, 1) := by decide +kernel
theorem dX1_worthOf_5 : decode cX1_worthOf 5 = .ok (.bipush 10, 2) := by decide +kernel
theorem dX1_worthOf_7 : decode cX1_worthOf 7 = .ok (.if_icmp .ge 26, 3) := by decide +kernel
theorem dX1_worthOf_10 : decode cX1_worthOf 10 = .ok (.iload_n 1, 1) := by decide +kernel
theorem dX1_worthOf_11 : decode cX1_worthOf 11 = .ok (.iload_n 3, 1) := by decide +kernel
theorem dX1_worthOf_12 : decode cX1_worthOf 12 = .ok (.ishr, 1) := by decide +kernel
theorem dX1_worthOf_13 : decode cX1_worthOf 13 = .ok (.iconst 1, 1) := by decide +kernel
theorem dX1_worthOf_14 : decode cX1_worthOf 14 = .ok (.iand, 1) := by decide +kernel
theorem dX1_worthOf_15 : decode cX1_worthOf 15 = .ok (.ifCond .eq 12, 3) := by decide +kernel
theorem dX1_worthOf_18 : decode cX1_worthOf 18 = .ok (.iload_n 2, 1) := by decide +kernel
theorem dX1_worthOf_19 : decode cX1_worthOf 19 = .ok (.aload_n 0, 1) := by decide +kernel
theorem dX1_worthOf_20 : decode cX1_worthOf 20 = .ok (.getfield 24, 3) := by decide +kernel
theorem dX1_worthOf_23 : decode cX1_worthOf 23 = .ok (.iload_n 3, 1) := by decide +kernel
theorem dX1_worthOf_24 : decode cX1_worthOf 24 = .ok (.iaload, 1) := by decide +kernel
theorem dX1_worthOf_25 : decode cX1_worthOf 25 = .ok (.iadd, 1) := by decide +kernel
theorem dX1_worthOf_26 : decode cX1_worthOf 26 = .ok (.istore_n 2, 1) := by decide +kernel
theorem dX1_worthOf_27 : decode cX1_worthOf 27 = .ok (.iinc 3 1, 3) := by decide +kernel
theorem dX1_worthOf_30 : decode cX1_worthOf 30 = .ok (.goto (-26), 3) := by decide +kernel
theorem dX1_worthOf_33 : decode cX1_worthOf 33 = .ok (.iload_n 2, 1) := by decide +kernel
theorem dX1_worthOf_34 : decode cX1_worthOf 34 = .ok (.ireturn, 1) := by decide +kernel
theorem dX1_balance_0 : decode cX1_balance 0 = .ok (.aload_n 0, 1) := by decide +kernel
theorem dX1_balance_1 : decode cX1_balance 1 = .ok (.aload_n 0, 1) := by decide +kernel
theorem dX1_balance_2 : decode cX1_balance 2 = .ok (.iload_n 1, 1) := by decide +kernel
theorem dX1_balance_3 : decode cX1_balance 3 = .ok (.iload_n 3, 1) := by decide +kernel
theorem dX1_balance_4 : decode cX1_balance 4 = .ok (.invokevirtual 108, 3) := by decide +kernel
theorem dX1_balance_7 : decode cX1_balance 7 = .ok (.invokevirtual 110, 3) := by decide +kernel
theorem dX1_balance_10 : decode cX1_balance 10 = .ok (.aload_n 0, 1) := by decide +kernel
theorem dX1_balance_11 : decode cX1_balance 11 = .ok (.aload_n 0, 1) := by decide +kernel
theorem dX1_balance_12 : decode cX1_balance 12 = .ok (.iload_n 2, 1) := by decide +kernel
theorem dX1_balance_13 : decode cX1_balance 13 = .ok (.iload_n 3, 1) := by decide +kernel
theorem dX1_balance_14 : decode cX1_balance 14 = .ok (.invokevirtual 108, 3) := by decide +kernel
theorem dX1_balance_17 : decode cX1_balance 17 = .ok (.invokevirtual 110, 3) := by decide +kernel
theorem dX1_balance_20 : decode cX1_balance 20 = .ok (.isub, 1) := by decide +kernel
theorem dX1_balance_21 : decode cX1_balance 21 = .ok (.ireturn, 1) := by decide +kernel
theorem dX1_standingOn_0 : decode cX1_standingOn 0 = .ok (.iconst 0, 1) := by decide +kernel
theorem dX1_standingOn_1 : decode cX1_standingOn 1 = .ok (.istore_n 2, 1) := by decide +kernel
theorem dX1_standingOn_2 : decode cX1_standingOn 2 = .ok (.iconst 0, 1) := by decide +kernel
theorem dX1_standingOn_3 : decode cX1_standingOn 3 = .ok (.istore_n 3, 1) := by decide +kernel
theorem dX1_standingOn_4 : decode cX1_standingOn 4 = .ok (.iload_n 3, 1) := by decide +kernel
theorem dX1_standingOn_5 : decode cX1_standingOn 5 = .ok (.aload_n 0, 1) := by decide +kernel
theorem dX1_standingOn_6 : decode cX1_standingOn 6 = .ok (.getfield 61, 3) := by decide +kernel
theorem dX1_standingOn_9 : decode cX1_standingOn 9 = .ok (.if_icmp .ge 25, 3) := by decide +kernel
theorem dX1_standingOn_12 : decode cX1_standingOn 12 = .ok (.aload_n 0, 1) := by decide +kernel
theorem dX1_standingOn_13 : decode cX1_standingOn 13 = .ok (.getfield 21, 3) := by decide +kernel
theorem dX1_standingOn_16 : decode cX1_standingOn 16 = .ok (.iload_n 3, 1) := by decide +kernel
theorem dX1_standingOn_17 : decode cX1_standingOn 17 = .ok (.iaload, 1) := by decide +kernel
theorem dX1_standingOn_18 : decode cX1_standingOn 18 = .ok (.iload_n 1, 1) := by decide +kernel
theorem dX1_standingOn_19 : decode cX1_standingOn 19 = .ok (.if_icmp .ne 9, 3) := by decide +kernel
theorem dX1_standingOn_22 : decode cX1_standingOn 22 = .ok (.iload_n 2, 1) := by decide +kernel
theorem dX1_standingOn_23 : decode cX1_standingOn 23 = .ok (.iconst 1, 1) := by decide +kernel
theorem dX1_standingOn_24 : decode cX1_standingOn 24 = .ok (.iload_n 3, 1) := by decide +kernel
theorem dX1_standingOn_25 : decode cX1_standingOn 25 = .ok (.ishl, 1) := by decide +kernel
theorem dX1_standingOn_26 : decode cX1_standingOn 26 = .ok (.ior, 1) := by decide +kernel
theorem dX1_standingOn_27 : decode cX1_standingOn 27 = .ok (.istore_n 2, 1) := by decide +kernel
theorem dX1_standingOn_28 : decode cX1_standingOn 28 = .ok (.iinc 3 1, 3) := by decide +kernel
theorem dX1_standingOn_31 : decode cX1_standingOn 31 = .ok (.goto (-27), 3) := by decide +kernel
theorem dX1_standingOn_34 : decode cX1_standingOn 34 = .ok (.iload_n 2, 1) := by decide +kernel
theorem dX1_standingOn_35 : decode cX1_standingOn 35 = .ok (.ireturn, 1) := by decide +kernel
theorem dX1_covering_0 : decode cX1_covering 0 = .ok (.iconst 0, 1) := by decide +kernel
theorem dX1_covering_1 : decode cX1_covering 1 = .ok (.istore_n 2, 1) := by decide +kernel
theorem dX1_covering_2 : decode cX1_covering 2 = .ok (.iconst 0, 1) := by decide +kernel
theorem dX1_covering_3 : decode cX1_covering 3 = .ok (.istore_n 3, 1) := by decide +kernel
theorem dX1_covering_4 : decode cX1_covering 4 = .ok (.iload_n 3, 1) := by decide +kernel
theorem dX1_covering_5 : decode cX1_covering 5 = .ok (.aload_n 0, 1) := by decide +kernel
theorem dX1_covering_6 : decode cX1_covering 6 = .ok (.getfield 61, 3) := by decide +kernel
theorem dX1_covering_9 : decode cX1_covering 9 = .ok (.if_icmp .ge 31, 3) := by decide +kernel
theorem dX1_covering_12 : decode cX1_covering 12 = .ok (.aload_n 0, 1) := by decide +kernel
theorem dX1_covering_13 : decode cX1_covering 13 = .ok (.iload_n 3, 1) := by decide +kernel
theorem dX1_covering_14 : decode cX1_covering 14 = .ok (.aload_n 0, 1) := by decide +kernel
theorem dX1_covering_15 : decode cX1_covering 15 = .ok (.getfield 71, 3) := by decide +kernel
theorem dX1_covering_18 : decode cX1_covering 18 = .ok (.invokevirtual 108, 3) := by decide +kernel
theorem dX1_covering_21 : decode cX1_covering 21 = .ok (.iload_n 1, 1) := by decide +kernel
theorem dX1_covering_22 : decode cX1_covering 22 = .ok (.ishr, 1) := by decide +kernel
theorem dX1_covering_23 : decode cX1_covering 23 = .ok (.iconst 1, 1) := by decide +kernel
theorem dX1_covering_24 : decode cX1_covering 24 = .ok (.iand, 1) := by decide +kernel
theorem dX1_covering_25 : decode cX1_covering 25 = .ok (.ifCond .eq 9, 3) := by decide +kernel
theorem dX1_covering_28 : decode cX1_covering 28 = .ok (.iload_n 2, 1) := by decide +kernel
theorem dX1_covering_29 : decode cX1_covering 29 = .ok (.iconst 1, 1) := by decide +kernel
theorem dX1_covering_30 : decode cX1_covering 30 = .ok (.iload_n 3, 1) := by decide +kernel
theorem dX1_covering_31 : decode cX1_covering 31 = .ok (.ishl, 1) := by decide +kernel
theorem dX1_covering_32 : decode cX1_covering 32 = .ok (.ior, 1) := by decide +kernel
theorem dX1_covering_33 : decode cX1_covering 33 = .ok (.istore_n 2, 1) := by decide +kernel
theorem dX1_covering_34 : decode cX1_covering 34 = .ok (.iinc 3 1, 3) := by decide +kernel
theorem dX1_covering_37 : decode cX1_covering 37 = .ok (.goto (-33), 3) := by decide +kernel
theorem dX1_covering_40 : decode cX1_covering 40 = .ok (.iload_n 2, 1) := by decide +kernel
theorem dX1_covering_41 : decode cX1_covering 41 = .ok (.ireturn, 1) := by decide +kernel
theorem dX1_tilesCoveredBy_0 : decode cX1_tilesCoveredBy 0 = .ok (.iconst 0, 1) := by decide +kernel
theorem dX1_tilesCoveredBy_1 : decode cX1_tilesCoveredBy 1 = .ok (.istore_n 2, 1) := by decide +kernel
theorem dX1_tilesCoveredBy_2 : decode cX1_tilesCoveredBy 2 = .ok (.iconst 0, 1) := by decide +kernel
theorem dX1_tilesCoveredBy_3 : decode cX1_tilesCoveredBy 3 = .ok (.istore_n 3, 1) := by decide +kernel
theorem dX1_tilesCoveredBy_4 : decode cX1_tilesCoveredBy 4 = .ok (.iload_n 3, 1) := by decide +kernel
theorem dX1_tilesCoveredBy_5 : decode cX1_tilesCoveredBy 5 = .ok (.bipush 10, 2) := by decide +kernel
theorem dX1_tilesCoveredBy_7 : decode cX1_tilesCoveredBy 7 = .ok (.if_icmp .ge 24, 3) := by decide +kernel
theorem dX1_tilesCoveredBy_10 : decode cX1_tilesCoveredBy 10 = .ok (.aload_n 0, 1) := by decide +kernel
theorem dX1_tilesCoveredBy_11 : decode cX1_tilesCoveredBy 11 = .ok (.iload_n 3, 1) := by decide +kernel
theorem dX1_tilesCoveredBy_12 : decode cX1_tilesCoveredBy 12 = .ok (.invokevirtual 114, 3) := by decide +kernel
theorem dX1_tilesCoveredBy_15 : decode cX1_tilesCoveredBy 15 = .ok (.invokestatic 117, 3) := by decide +kernel
theorem dX1_tilesCoveredBy_18 : decode cX1_tilesCoveredBy 18 = .ok (.iload_n 1, 1) := by decide +kernel
theorem dX1_tilesCoveredBy_19 : decode cX1_tilesCoveredBy 19 = .ok (.if_icmp .lt 6, 3) := by decide +kernel
theorem dX1_tilesCoveredBy_22 : decode cX1_tilesCoveredBy 22 = .ok (.iinc 2 1, 3) := by decide +kernel
theorem dX1_tilesCoveredBy_25 : decode cX1_tilesCoveredBy 25 = .ok (.iinc 3 1, 3) := by decide +kernel
theorem dX1_tilesCoveredBy_28 : decode cX1_tilesCoveredBy 28 = .ok (.goto (-24), 3) := by decide +kernel
theorem dX1_tilesCoveredBy_31 : decode cX1_tilesCoveredBy 31 = .ok (.iload_n 2, 1) := by decide +kernel
theorem dX1_tilesCoveredBy_32 : decode cX1_tilesCoveredBy 32 = .ok (.ireturn, 1) := by decide +kernel
theorem dX1_casesAsTheyShouldBe_0 : decode cX1_casesAsTheyShouldBe 0 = .ok (.iconst 0, 1) := by decide +kernel
theorem dX1_casesAsTheyShouldBe_1 : decode cX1_casesAsTheyShouldBe 1 = .ok (.istore_n 1, 1) := by decide +kernel
theorem dX1_casesAsTheyShouldBe_2 : decode cX1_casesAsTheyShouldBe 2 = .ok (.iconst 0, 1) := by decide +kernel
theorem dX1_casesAsTheyShouldBe_3 : decode cX1_casesAsTheyShouldBe 3 = .ok (.istore_n 2, 1) := by decide +kernel
theorem dX1_casesAsTheyShouldBe_4 : decode cX1_casesAsTheyShouldBe 4 = .ok (.iload_n 2, 1) := by decide +kernel
theorem dX1_casesAsTheyShouldBe_5 : decode cX1_casesAsTheyShouldBe 5 = .ok (.aload_n 0, 1) := by decide +kernel
theorem dX1_casesAsTheyShouldBe_6 : decode cX1_casesAsTheyShouldBe 6 = .ok (.getfield 77, 3) := by decide +kernel
theorem dX1_casesAsTheyShouldBe_9 : decode cX1_casesAsTheyShouldBe 9 = .ok (.if_icmp .ge 35, 3) := by decide +kernel
theorem dX1_casesAsTheyShouldBe_12 : decode cX1_casesAsTheyShouldBe 12 = .ok (.aload_n 0, 1) := by decide +kernel
theorem dX1_casesAsTheyShouldBe_13 : decode cX1_casesAsTheyShouldBe 13 = .ok (.aload_n 0, 1) := by decide +kernel
theorem dX1_casesAsTheyShouldBe_14 : decode cX1_casesAsTheyShouldBe 14 = .ok (.getfield 27, 3) := by decide +kernel
theorem dX1_casesAsTheyShouldBe_17 : decode cX1_casesAsTheyShouldBe 17 = .ok (.iload_n 2, 1) := by decide +kernel
theorem dX1_casesAsTheyShouldBe_18 : decode cX1_casesAsTheyShouldBe 18 = .ok (.iaload, 1) := by decide +kernel
theorem dX1_casesAsTheyShouldBe_19 : decode cX1_casesAsTheyShouldBe 19 = .ok (.aload_n 0, 1) := by decide +kernel
theorem dX1_casesAsTheyShouldBe_20 : decode cX1_casesAsTheyShouldBe 20 = .ok (.getfield 30, 3) := by decide +kernel
theorem dX1_casesAsTheyShouldBe_23 : decode cX1_casesAsTheyShouldBe 23 = .ok (.iload_n 2, 1) := by decide +kernel
theorem dX1_casesAsTheyShouldBe_24 : decode cX1_casesAsTheyShouldBe 24 = .ok (.iaload, 1) := by decide +kernel
theorem dX1_casesAsTheyShouldBe_25 : decode cX1_casesAsTheyShouldBe 25 = .ok (.aload_n 0, 1) := by decide +kernel
theorem dX1_casesAsTheyShouldBe_26 : decode cX1_casesAsTheyShouldBe 26 = .ok (.getfield 71, 3) := by decide +kernel
theorem dX1_casesAsTheyShouldBe_29 : decode cX1_casesAsTheyShouldBe 29 = .ok (.invokevirtual 122, 3) := by decide +kernel
theorem dX1_casesAsTheyShouldBe_32 : decode cX1_casesAsTheyShouldBe 32 = .ok (.ifCond .le 6, 3) := by decide +kernel
theorem dX1_casesAsTheyShouldBe_35 : decode cX1_casesAsTheyShouldBe 35 = .ok (.iinc 1 1, 3) := by decide +kernel
theorem dX1_casesAsTheyShouldBe_38 : decode cX1_casesAsTheyShouldBe 38 = .ok (.iinc 2 1, 3) := by decide +kernel
theorem dX1_casesAsTheyShouldBe_41 : decode cX1_casesAsTheyShouldBe 41 = .ok (.goto (-37), 3) := by decide +kernel
theorem dX1_casesAsTheyShouldBe_44 : decode cX1_casesAsTheyShouldBe 44 = .ok (.iload_n 1, 1) := by decide +kernel
theorem dX1_casesAsTheyShouldBe_45 : decode cX1_casesAsTheyShouldBe 45 = .ok (.ireturn, 1) := by decide +kernel
theorem dX2_init_0 : decode cX2_init 0 = .ok (.aload_n 0, 1) := by decide +kernel
theorem dX2_init_1 : decode cX2_init 1 = .ok (.invokespecial 3, 3) := by decide +kernel
theorem dX2_init_4 : decode cX2_init 4 = .ok (.aload_n 0, 1) := by decide +kernel
theorem dX2_init_5 : decode cX2_init 5 = .ok (.iconst 5, 1) := by decide +kernel
theorem dX2_init_6 : decode cX2_init 6 = .ok (.newarray .int, 2) := by decide +kernel
theorem dX2_init_8 : decode cX2_init 8 = .ok (.putfield 9, 3) := by decide +kernel
theorem dX2_init_11 : decode cX2_init 11 = .ok (.aload_n 0, 1) := by decide +kernel
theorem dX2_init_12 : decode cX2_init 12 = .ok (.iconst 5, 1) := by decide +kernel
theorem dX2_init_13 : decode cX2_init 13 = .ok (.newarray .int, 2) := by decide +kernel
theorem dX2_init_15 : decode cX2_init 15 = .ok (.putfield 15, 3) := by decide +kernel
theorem dX2_init_18 : decode cX2_init 18 = .ok (.return_, 1) := by decide +kernel
theorem dX2_set_0 : decode cX2_set 0 = .ok (.aload_n 0, 1) := by decide +kernel
theorem dX2_set_1 : decode cX2_set 1 = .ok (.aload_n 1, 1) := by decide +kernel
theorem dX2_set_2 : decode cX2_set 2 = .ok (.getfield 18, 3) := by decide +kernel
theorem dX2_set_5 : decode cX2_set 5 = .ok (.putfield 24, 3) := by decide +kernel
theorem dX2_set_8 : decode cX2_set 8 = .ok (.iconst 0, 1) := by decide +kernel
theorem dX2_set_9 : decode cX2_set 9 = .ok (.istore_n 2, 1) := by decide +kernel
theorem dX2_set_10 : decode cX2_set 10 = .ok (.iload_n 2, 1) := by decide +kernel
theorem dX2_set_11 : decode cX2_set 11 = .ok (.aload_n 0, 1) := by decide +kernel
theorem dX2_set_12 : decode cX2_set 12 = .ok (.getfield 24, 3) := by decide +kernel
theorem dX2_set_15 : decode cX2_set 15 = .ok (.if_icmp .ge 31, 3) := by decide +kernel
theorem dX2_set_18 : decode cX2_set 18 = .ok (.aload_n 0, 1) := by decide +kernel
theorem dX2_set_19 : decode cX2_set 19 = .ok (.getfield 9, 3) := by decide +kernel
theorem dX2_set_22 : decode cX2_set 22 = .ok (.iload_n 2, 1) := by decide +kernel
theorem dX2_set_23 : decode cX2_set 23 = .ok (.aload_n 1, 1) := by decide +kernel
theorem dX2_set_24 : decode cX2_set 24 = .ok (.aload_n 1, 1) := by decide +kernel
theorem dX2_set_25 : decode cX2_set 25 = .ok (.getfield 25, 3) := by decide +kernel
theorem dX2_set_28 : decode cX2_set 28 = .ok (.iload_n 2, 1) := by decide +kernel
theorem dX2_set_29 : decode cX2_set 29 = .ok (.iaload, 1) := by decide +kernel
theorem dX2_set_30 : decode cX2_set 30 = .ok (.aload_n 1, 1) := by decide +kernel
theorem dX2_set_31 : decode cX2_set 31 = .ok (.getfield 28, 3) := by decide +kernel
theorem dX2_set_34 : decode cX2_set 34 = .ok (.iload_n 2, 1) := by decide +kernel
theorem dX2_set_35 : decode cX2_set 35 = .ok (.iaload, 1) := by decide +kernel
theorem dX2_set_36 : decode cX2_set 36 = .ok (.invokestatic 31, 3) := by decide +kernel
theorem dX2_set_39 : decode cX2_set 39 = .ok (.iastore, 1) := by decide +kernel
theorem dX2_set_40 : decode cX2_set 40 = .ok (.iinc 2 1, 3) := by decide +kernel
theorem dX2_set_43 : decode cX2_set 43 = .ok (.goto (-33), 3) := by decide +kernel
theorem dX2_set_46 : decode cX2_set 46 = .ok (.sipush 8191, 3) := by decide +kernel
theorem dX2_set_49 : decode cX2_set 49 = .ok (.istore_n 2, 1) := by decide +kernel
theorem dX2_set_50 : decode cX2_set 50 = .ok (.aload_n 0, 1) := by decide +kernel
theorem dX2_set_51 : decode cX2_set 51 = .ok (.aload_n 0, 1) := by decide +kernel
theorem dX2_set_52 : decode cX2_set 52 = .ok (.iconst 0, 1) := by decide +kernel
theorem dX2_set_53 : decode cX2_set 53 = .ok (.iload_n 2, 1) := by decide +kernel
theorem dX2_set_54 : decode cX2_set 54 = .ok (.invokevirtual 35, 3) := by decide +kernel
theorem dX2_set_57 : decode cX2_set 57 = .ok (.putfield 39, 3) := by decide +kernel
theorem dX2_set_60 : decode cX2_set 60 = .ok (.aload_n 0, 1) := by decide +kernel
theorem dX2_set_61 : decode cX2_set 61 = .ok (.getfield 39, 3) := by decide +kernel
theorem dX2_set_64 : decode cX2_set 64 = .ok (.istore_n 3, 1) := by decide +kernel
theorem dX2_set_65 : decode cX2_set 65 = .ok (.iconst 0, 1) := by decide +kernel
theorem dX2_set_66 : decode cX2_set 66 = .ok (.istore 4, 2) := by decide +kernel
theorem dX2_set_68 : decode cX2_set 68 = .ok (.iload 4, 2) := by decide +kernel
theorem dX2_set_70 : decode cX2_set 70 = .ok (.aload_n 0, 1) := by decide +kernel
theorem dX2_set_71 : decode cX2_set 71 = .ok (.getfield 24, 3) := by decide +kernel
theorem dX2_set_74 : decode cX2_set 74 = .ok (.if_icmp .ge 55, 3) := by decide +kernel
theorem dX2_set_77 : decode cX2_set 77 = .ok (.aload_n 0, 1) := by decide +kernel
theorem dX2_set_78 : decode cX2_set 78 = .ok (.getfield 15, 3) := by decide +kernel
theorem dX2_set_81 : decode cX2_set 81 = .ok (.iload 4, 2) := by decide +kernel
theorem dX2_set_83 : decode cX2_set 83 = .ok (.aload_n 0, 1) := by decide +kernel
theorem dX2_set_84 : decode cX2_set 84 = .ok (.iload 4, 2) := by decide +kernel
theorem dX2_set_86 : decode cX2_set 86 = .ok (.iload_n 2, 1) := by decide +kernel
theorem dX2_set_87 : decode cX2_set 87 = .ok (.iload_n 3, 1) := by decide +kernel
theorem dX2_set_88 : decode cX2_set 88 = .ok (.invokevirtual 42, 3) := by decide +kernel
theorem dX2_set_91 : decode cX2_set 91 = .ok (.iastore, 1) := by decide +kernel
theorem dX2_set_92 : decode cX2_set 92 = .ok (.aload_n 0, 1) := by decide +kernel
theorem dX2_set_93 : decode cX2_set 93 = .ok (.getfield 15, 3) := by decide +kernel
theorem dX2_set_96 : decode cX2_set 96 = .ok (.iload 4, 2) := by decide +kernel
theorem dX2_set_98 : decode cX2_set 98 = .ok (.iaload, 1) := by decide +kernel
theorem dX2_set_99 : decode cX2_set 99 = .ok (.iconst (-1), 1) := by decide +kernel
theorem dX2_set_100 : decode cX2_set 100 = .ok (.if_icmp .ne 6, 3) := by decide +kernel
theorem dX2_set_103 : decode cX2_set 103 = .ok (.goto 20, 3) := by decide +kernel
theorem dX2_set_106 : decode cX2_set 106 = .ok (.iload_n 2, 1) := by decide +kernel
theorem dX2_set_107 : decode cX2_set 107 = .ok (.iconst 1, 1) := by decide +kernel
theorem dX2_set_108 : decode cX2_set 108 = .ok (.aload_n 0, 1) := by decide +kernel
theorem dX2_set_109 : decode cX2_set 109 = .ok (.getfield 15, 3) := by decide +kernel
theorem dX2_set_112 : decode cX2_set 112 = .ok (.iload 4, 2) := by decide +kernel
theorem dX2_set_114 : decode cX2_set 114 = .ok (.iaload, 1) := by decide +kernel
theorem dX2_set_115 : decode cX2_set 115 = .ok (.ishl, 1) := by decide +kernel
theorem dX2_set_116 : decode cX2_set 116 = .ok (.iconst (-1), 1) := by decide +kernel
theorem dX2_set_117 : decode cX2_set 117 = .ok (.ixor, 1) := by decide +kernel
theorem dX2_set_118 : decode cX2_set 118 = .ok (.iand, 1) := by decide +kernel
theorem dX2_set_119 : decode cX2_set 119 = .ok (.istore_n 2, 1) := by decide +kernel
theorem dX2_set_120 : decode cX2_set 120 = .ok (.iinc 3 (-1), 3) := by decide +kernel
theorem dX2_set_123 : decode cX2_set 123 = .ok (.iinc 4 1, 3) := by decide +kernel
theorem dX2_set_126 : decode cX2_set 126 = .ok (.goto (-58), 3) := by decide +kernel
theorem dX2_set_129 : decode cX2_set 129 = .ok (.return_, 1) := by decide +kernel
theorem dX2_hoursForFirst_0 : decode cX2_hoursForFirst 0 = .ok (.iconst 0, 1) := by decide +kernel
theorem dX2_hoursForFirst_1 : decode cX2_hoursForFirst 1 = .ok (.istore_n 3, 1) := by decide +kernel
theorem dX2_hoursForFirst_2 : decode cX2_hoursForFirst 2 = .ok (.iconst 0, 1) := by decide +kernel
theorem dX2_hoursForFirst_3 : decode cX2_hoursForFirst 3 = .ok (.istore 4, 2) := by decide +kernel
theorem dX2_hoursForFirst_5 : decode cX2_hoursForFirst 5 = .ok (.iload 4, 2) := by decide +kernel
theorem dX2_hoursForFirst_7 : decode cX2_hoursForFirst 7 = .ok (.bipush 13, 2) := by decide +kernel
theorem dX2_hoursForFirst_9 : decode cX2_hoursForFirst 9 = .ok (.if_icmp .ge 27, 3) := by decide +kernel
theorem dX2_hoursForFirst_12 : decode cX2_hoursForFirst 12 = .ok (.aload_n 0, 1) := by decide +kernel
theorem dX2_hoursForFirst_13 : decode cX2_hoursForFirst 13 = .ok (.iload_n 1, 1) := by decide +kernel
theorem dX2_hoursForFirst_14 : decode cX2_hoursForFirst 14 = .ok (.iload_n 2, 1) := by decide +kernel
theorem dX2_hoursForFirst_15 : decode cX2_hoursForFirst 15 = .ok (.iload 4, 2) := by decide +kernel
theorem dX2_hoursForFirst_17 : decode cX2_hoursForFirst 17 = .ok (.invokevirtual 46, 3) := by decide +kernel
theorem dX2_hoursForFirst_20 : decode cX2_hoursForFirst 20 = .ok (.ifCond .le 10, 3) := by decide +kernel
theorem dX2_hoursForFirst_23 : decode cX2_hoursForFirst 23 = .ok (.iload_n 3, 1) := by decide +kernel
theorem dX2_hoursForFirst_24 : decode cX2_hoursForFirst 24 = .ok (.iconst 1, 1) := by decide +kernel
theorem dX2_hoursForFirst_25 : decode cX2_hoursForFirst 25 = .ok (.iload 4, 2) := by decide +kernel
theorem dX2_hoursForFirst_27 : decode cX2_hoursForFirst 27 = .ok (.ishl, 1) := by decide +kernel
theorem dX2_hoursForFirst_28 : decode cX2_hoursForFirst 28 = .ok (.ior, 1) := by decide +kernel
theorem dX2_hoursForFirst_29 : decode cX2_hoursForFirst 29 = .ok (.istore_n 3, 1) := by decide +kernel
theorem dX2_hoursForFirst_30 : decode cX2_hoursForFirst 30 = .ok (.iinc 4 1, 3) := by decide +kernel
theorem dX2_hoursForFirst_33 : decode cX2_hoursForFirst 33 = .ok (.goto (-28), 3) := by decide +kernel
theorem dX2_hoursForFirst_36 : decode cX2_hoursForFirst 36 = .ok (.iload_n 3, 1) := by decide +kernel
theorem dX2_hoursForFirst_37 : decode cX2_hoursForFirst 37 = .ok (.ireturn, 1) := by decide +kernel
theorem dX2_firstHour_0 : decode cX2_firstHour 0 = .ok (.aload_n 0, 1) := by decide +kernel
theorem dX2_firstHour_1 : decode cX2_firstHour 1 = .ok (.iload_n 1, 1) := by decide +kernel
theorem dX2_firstHour_2 : decode cX2_firstHour 2 = .ok (.iconst 1, 1) := by decide +kernel
theorem dX2_firstHour_3 : decode cX2_firstHour 3 = .ok (.iadd, 1) := by decide +kernel
theorem dX2_firstHour_4 : decode cX2_firstHour 4 = .ok (.iload_n 2, 1) := by decide +kernel
theorem dX2_firstHour_5 : decode cX2_firstHour 5 = .ok (.invokevirtual 35, 3) := by decide +kernel
theorem dX2_firstHour_8 : decode cX2_firstHour 8 = .ok (.iload_n 3, 1) := by decide +kernel
theorem dX2_firstHour_9 : decode cX2_firstHour 9 = .ok (.if_icmp .lt 5, 3) := by decide +kernel
theorem dX2_firstHour_12 : decode cX2_firstHour 12 = .ok (.iconst (-1), 1) := by decide +kernel
theorem dX2_firstHour_13 : decode cX2_firstHour 13 = .ok (.ireturn, 1) := by decide +kernel
theorem dX2_firstHour_14 : decode cX2_firstHour 14 = .ok (.iconst 0, 1) := by decide +kernel
theorem dX2_firstHour_15 : decode cX2_firstHour 15 = .ok (.istore 4, 2) := by decide +kernel
theorem dX2_firstHour_17 : decode cX2_firstHour 17 = .ok (.iload 4, 2) := by decide +kernel
theorem dX2_firstHour_19 : decode cX2_firstHour 19 = .ok (.bipush 13, 2) := by decide +kernel
theorem dX2_firstHour_21 : decode cX2_firstHour 21 = .ok (.if_icmp .ge 54, 3) := by decide +kernel
theorem dX2_firstHour_24 : decode cX2_firstHour 24 = .ok (.iconst 1, 1) := by decide +kernel
theorem dX2_firstHour_25 : decode cX2_firstHour 25 = .ok (.iload 4, 2) := by decide +kernel
theorem dX2_firstHour_27 : decode cX2_firstHour 27 = .ok (.ishl, 1) := by decide +kernel
theorem dX2_firstHour_28 : decode cX2_firstHour 28 = .ok (.istore 5, 2) := by decide +kernel
theorem dX2_firstHour_30 : decode cX2_firstHour 30 = .ok (.aload_n 0, 1) := by decide +kernel
theorem dX2_firstHour_31 : decode cX2_firstHour 31 = .ok (.getfield 9, 3) := by decide +kernel
theorem dX2_firstHour_34 : decode cX2_firstHour 34 = .ok (.iload_n 1, 1) := by decide +kernel
theorem dX2_firstHour_35 : decode cX2_firstHour 35 = .ok (.iaload, 1) := by decide +kernel
theorem dX2_firstHour_36 : decode cX2_firstHour 36 = .ok (.iload_n 2, 1) := by decide +kernel
theorem dX2_firstHour_37 : decode cX2_firstHour 37 = .ok (.iand, 1) := by decide +kernel
theorem dX2_firstHour_38 : decode cX2_firstHour 38 = .ok (.iload 5, 2) := by decide +kernel
theorem dX2_firstHour_40 : decode cX2_firstHour 40 = .ok (.iand, 1) := by decide +kernel
theorem dX2_firstHour_41 : decode cX2_firstHour 41 = .ok (.ifCond .ne 6, 3) := by decide +kernel
theorem dX2_firstHour_44 : decode cX2_firstHour 44 = .ok (.goto 25, 3) := by decide +kernel
theorem dX2_firstHour_47 : decode cX2_firstHour 47 = .ok (.iconst 1, 1) := by decide +kernel
theorem dX2_firstHour_48 : decode cX2_firstHour 48 = .ok (.aload_n 0, 1) := by decide +kernel
theorem dX2_firstHour_49 : decode cX2_firstHour 49 = .ok (.iload_n 1, 1) := by decide +kernel
theorem dX2_firstHour_50 : decode cX2_firstHour 50 = .ok (.iconst 1, 1) := by decide +kernel
theorem dX2_firstHour_51 : decode cX2_firstHour 51 = .ok (.iadd, 1) := by decide +kernel
theorem dX2_firstHour_52 : decode cX2_firstHour 52 = .ok (.iload_n 2, 1) := by decide +kernel
theorem dX2_firstHour_53 : decode cX2_firstHour 53 = .ok (.iload 5, 2) := by decide +kernel
theorem dX2_firstHour_55 : decode cX2_firstHour 55 = .ok (.iconst (-1), 1) := by decide +kernel
theorem dX2_firstHour_56 : decode cX2_firstHour 56 = .ok (.ixor, 1) := by decide +kernel
theorem dX2_firstHour_57 : decode cX2_firstHour 57 = .ok (.iand, 1) := by decide +kernel
theorem dX2_firstHour_58 : decode cX2_firstHour 58 = .ok (.invokevirtual 35, 3) := by decide +kernel
theorem dX2_firstHour_61 : decode cX2_firstHour 61 = .ok (.iadd, 1) := by decide +kernel
theorem dX2_firstHour_62 : decode cX2_firstHour 62 = .ok (.iload_n 3, 1) := by decide +kernel
theorem dX2_firstHour_63 : decode cX2_firstHour 63 = .ok (.if_icmp .lt 6, 3) := by decide +kernel
theorem dX2_firstHour_66 : decode cX2_firstHour 66 = .ok (.iload 4, 2) := by decide +kernel
theorem dX2_firstHour_68 : decode cX2_firstHour 68 = .ok (.ireturn, 1) := by decide +kernel
theorem dX2_firstHour_69 : decode cX2_firstHour 69 = .ok (.iinc 4 1, 3) := by decide +kernel
theorem dX2_firstHour_72 : decode cX2_firstHour 72 = .ok (.goto (-55), 3) := by decide +kernel
theorem dX2_firstHour_75 : decode cX2_firstHour 75 = .ok (.iconst (-1), 1) := by decide +kernel
theorem dX2_firstHour_76 : decode cX2_firstHour 76 = .ok (.ireturn, 1) := by decide +kernel
theorem dX2_mostFrom_0 : decode cX2_mostFrom 0 = .ok (.aload_n 0, 1) := by decide +kernel
theorem dX2_mostFrom_1 : decode cX2_mostFrom 1 = .ok (.getfield 24, 3) := by decide +kernel
theorem dX2_mostFrom_4 : decode cX2_mostFrom 4 = .ok (.iload_n 1, 1) := by decide +kernel
theorem dX2_mostFrom_5 : decode cX2_mostFrom 5 = .ok (.isub, 1) := by decide +kernel
theorem dX2_mostFrom_6 : decode cX2_mostFrom 6 = .ok (.istore_n 3, 1) := by decide +kernel
theorem dX2_mostFrom_7 : decode cX2_mostFrom 7 = .ok (.iload_n 3, 1) := by decide +kernel
theorem dX2_mostFrom_8 : decode cX2_mostFrom 8 = .ok (.iconst 0, 1) := by decide +kernel
theorem dX2_mostFrom_9 : decode cX2_mostFrom 9 = .ok (.invokestatic 49, 3) := by decide +kernel
theorem dX2_mostFrom_12 : decode cX2_mostFrom 12 = .ok (.istore 4, 2) := by decide +kernel
theorem dX2_mostFrom_14 : decode cX2_mostFrom 14 = .ok (.iconst 1, 1) := by decide +kernel
theorem dX2_mostFrom_15 : decode cX2_mostFrom 15 = .ok (.istore 5, 2) := by decide +kernel
theorem dX2_mostFrom_17 : decode cX2_mostFrom 17 = .ok (.iload 5, 2) := by decide +kernel
theorem dX2_mostFrom_19 : decode cX2_mostFrom 19 = .ok (.iconst 1, 1) := by decide +kernel
theorem dX2_mostFrom_20 : decode cX2_mostFrom 20 = .ok (.iload_n 3, 1) := by decide +kernel
theorem dX2_mostFrom_21 : decode cX2_mostFrom 21 = .ok (.ishl, 1) := by decide +kernel
theorem dX2_mostFrom_22 : decode cX2_mostFrom 22 = .ok (.if_icmp .ge 77, 3) := by decide +kernel
theorem dX2_mostFrom_25 : decode cX2_mostFrom 25 = .ok (.iconst 0, 1) := by decide +kernel
theorem dX2_mostFrom_26 : decode cX2_mostFrom 26 = .ok (.istore 6, 2) := by decide +kernel
theorem dX2_mostFrom_28 : decode cX2_mostFrom 28 = .ok (.iconst 0, 1) := by decide +kernel
theorem dX2_mostFrom_29 : decode cX2_mostFrom 29 = .ok (.istore 7, 2) := by decide +kernel
theorem dX2_mostFrom_31 : decode cX2_mostFrom 31 = .ok (.iload 7, 2) := by decide +kernel
theorem dX2_mostFrom_33 : decode cX2_mostFrom 33 = .ok (.iload_n 3, 1) := by decide +kernel
theorem dX2_mostFrom_34 : decode cX2_mostFrom 34 = .ok (.if_icmp .ge 33, 3) := by decide +kernel
theorem dX2_mostFrom_37 : decode cX2_mostFrom 37 = .ok (.iload 5, 2) := by decide +kernel
theorem dX2_mostFrom_39 : decode cX2_mostFrom 39 = .ok (.iload 7, 2) := by decide +kernel
theorem dX2_mostFrom_41 : decode cX2_mostFrom 41 = .ok (.ishr, 1) := by decide +kernel
theorem dX2_mostFrom_42 : decode cX2_mostFrom 42 = .ok (.iconst 1, 1) := by decide +kernel
theorem dX2_mostFrom_43 : decode cX2_mostFrom 43 = .ok (.iand, 1) := by decide +kernel
theorem dX2_mostFrom_44 : decode cX2_mostFrom 44 = .ok (.ifCond .eq 17, 3) := by decide +kernel
theorem dX2_mostFrom_47 : decode cX2_mostFrom 47 = .ok (.iload 6, 2) := by decide +kernel
theorem dX2_mostFrom_49 : decode cX2_mostFrom 49 = .ok (.aload_n 0, 1) := by decide +kernel
theorem dX2_mostFrom_50 : decode cX2_mostFrom 50 = .ok (.getfield 9, 3) := by decide +kernel
theorem dX2_mostFrom_53 : decode cX2_mostFrom 53 = .ok (.iload_n 1, 1) := by decide +kernel
theorem dX2_mostFrom_54 : decode cX2_mostFrom 54 = .ok (.iload 7, 2) := by decide +kernel
theorem dX2_mostFrom_56 : decode cX2_mostFrom 56 = .ok (.iadd, 1) := by decide +kernel
theorem dX2_mostFrom_57 : decode cX2_mostFrom 57 = .ok (.iaload, 1) := by decide +kernel
theorem dX2_mostFrom_58 : decode cX2_mostFrom 58 = .ok (.ior, 1) := by decide +kernel
theorem dX2_mostFrom_59 : decode cX2_mostFrom 59 = .ok (.istore 6, 2) := by decide +kernel
theorem dX2_mostFrom_61 : decode cX2_mostFrom 61 = .ok (.iinc 7 1, 3) := by decide +kernel
theorem dX2_mostFrom_64 : decode cX2_mostFrom 64 = .ok (.goto (-33), 3) := by decide +kernel
theorem dX2_mostFrom_67 : decode cX2_mostFrom 67 = .ok (.iload 5, 2) := by decide +kernel
theorem dX2_mostFrom_69 : decode cX2_mostFrom 69 = .ok (.invokestatic 54, 3) := by decide +kernel
theorem dX2_mostFrom_72 : decode cX2_mostFrom 72 = .ok (.iload 6, 2) := by decide +kernel
theorem dX2_mostFrom_74 : decode cX2_mostFrom 74 = .ok (.iload_n 2, 1) := by decide +kernel
theorem dX2_mostFrom_75 : decode cX2_mostFrom 75 = .ok (.iand, 1) := by decide +kernel
theorem dX2_mostFrom_76 : decode cX2_mostFrom 76 = .ok (.invokestatic 54, 3) := by decide +kernel
theorem dX2_mostFrom_79 : decode cX2_mostFrom 79 = .ok (.isub, 1) := by decide +kernel
theorem dX2_mostFrom_80 : decode cX2_mostFrom 80 = .ok (.istore 7, 2) := by decide +kernel
theorem dX2_mostFrom_82 : decode cX2_mostFrom 82 = .ok (.iload 4, 2) := by decide +kernel
theorem dX2_mostFrom_84 : decode cX2_mostFrom 84 = .ok (.iload_n 3, 1) := by decide +kernel
theorem dX2_mostFrom_85 : decode cX2_mostFrom 85 = .ok (.iload 7, 2) := by decide +kernel
theorem dX2_mostFrom_87 : decode cX2_mostFrom 87 = .ok (.isub, 1) := by decide +kernel
theorem dX2_mostFrom_88 : decode cX2_mostFrom 88 = .ok (.invokestatic 60, 3) := by decide +kernel
theorem dX2_mostFrom_91 : decode cX2_mostFrom 91 = .ok (.istore 4, 2) := by decide +kernel
theorem dX2_mostFrom_93 : decode cX2_mostFrom 93 = .ok (.iinc 5 1, 3) := by decide +kernel
theorem dX2_mostFrom_96 : decode cX2_mostFrom 96 = .ok (.goto (-79), 3) := by decide +kernel
theorem dX2_mostFrom_99 : decode cX2_mostFrom 99 = .ok (.iload 4, 2) := by decide +kernel
theorem dX2_mostFrom_101 : decode cX2_mostFrom 101 = .ok (.ireturn, 1) := by decide +kernel
theorem dX3_init_0 : decode cX3_init 0 = .ok (.aload_n 0, 1) := by decide +kernel
theorem dX3_init_1 : decode cX3_init 1 = .ok (.invokespecial 3, 3) := by decide +kernel
theorem dX3_init_4 : decode cX3_init 4 = .ok (.aload_n 0, 1) := by decide +kernel
theorem dX3_init_5 : decode cX3_init 5 = .ok (.bipush 10, 2) := by decide +kernel
theorem dX3_init_7 : decode cX3_init 7 = .ok (.newarray .int, 2) := by decide +kernel
theorem dX3_init_9 : decode cX3_init 9 = .ok (.putfield 9, 3) := by decide +kernel
theorem dX3_init_12 : decode cX3_init 12 = .ok (.aload_n 0, 1) := by decide +kernel
theorem dX3_init_13 : decode cX3_init 13 = .ok (.bipush 10, 2) := by decide +kernel
theorem dX3_init_15 : decode cX3_init 15 = .ok (.newarray .int, 2) := by decide +kernel
theorem dX3_init_17 : decode cX3_init 17 = .ok (.putfield 15, 3) := by decide +kernel
theorem dX3_init_20 : decode cX3_init 20 = .ok (.aload_n 0, 1) := by decide +kernel
theorem dX3_init_21 : decode cX3_init 21 = .ok (.bipush 100, 2) := by decide +kernel
theorem dX3_init_23 : decode cX3_init 23 = .ok (.newarray .int, 2) := by decide +kernel
theorem dX3_init_25 : decode cX3_init 25 = .ok (.putfield 18, 3) := by decide +kernel
theorem dX3_init_28 : decode cX3_init 28 = .ok (.aload_n 0, 1) := by decide +kernel
theorem dX3_init_29 : decode cX3_init 29 = .ok (.bipush 100, 2) := by decide +kernel
theorem dX3_init_31 : decode cX3_init 31 = .ok (.newarray .int, 2) := by decide +kernel
theorem dX3_init_33 : decode cX3_init 33 = .ok (.putfield 21, 3) := by decide +kernel
theorem dX3_init_36 : decode cX3_init 36 = .ok (.return_, 1) := by decide +kernel
theorem dX3_solve_0 : decode cX3_solve 0 = .ok (.iconst 0, 1) := by decide +kernel
theorem dX3_solve_1 : decode cX3_solve 1 = .ok (.istore 5, 2) := by decide +kernel
theorem dX3_solve_3 : decode cX3_solve 3 = .ok (.iload 5, 2) := by decide +kernel
theorem dX3_solve_5 : decode cX3_solve 5 = .ok (.bipush 100, 2) := by decide +kernel
theorem dX3_solve_7 : decode cX3_solve 7 = .ok (.if_icmp .ge 17, 3) := by decide +kernel
theorem dX3_solve_10 : decode cX3_solve 10 = .ok (.aload_n 0, 1) := by decide +kernel
theorem dX3_solve_11 : decode cX3_solve 11 = .ok (.getfield 21, 3) := by decide +kernel
theorem dX3_solve_14 : decode cX3_solve 14 = .ok (.iload 5, 2) := by decide +kernel
theorem dX3_solve_16 : decode cX3_solve 16 = .ok (.iconst 0, 1) := by decide +kernel
theorem dX3_solve_17 : decode cX3_solve 17 = .ok (.iastore, 1) := by decide +kernel
theorem dX3_solve_18 : decode cX3_solve 18 = .ok (.iinc 5 1, 3) := by decide +kernel
theorem dX3_solve_21 : decode cX3_solve 21 = .ok (.goto (-18), 3) := by decide +kernel
theorem dX3_solve_24 : decode cX3_solve 24 = .ok (.iload 4, 2) := by decide +kernel
theorem dX3_solve_26 : decode cX3_solve 26 = .ok (.iconst 1, 1) := by decide +kernel
theorem dX3_solve_27 : decode cX3_solve 27 = .ok (.isub, 1) := by decide +kernel
theorem dX3_solve_28 : decode cX3_solve 28 = .ok (.istore 5, 2) := by decide +kernel
theorem dX3_solve_30 : decode cX3_solve 30 = .ok (.iload 5, 2) := by decide +kernel
theorem dX3_solve_32 : decode cX3_solve 32 = .ok (.ifCond .le 30, 3) := by decide +kernel
theorem dX3_solve_35 : decode cX3_solve 35 = .ok (.aload_n 0, 1) := by decide +kernel
theorem dX3_solve_36 : decode cX3_solve 36 = .ok (.aload_n 1, 1) := by decide +kernel
theorem dX3_solve_37 : decode cX3_solve 37 = .ok (.iload_n 2, 1) := by decide +kernel
theorem dX3_solve_38 : decode cX3_solve 38 = .ok (.iload_n 3, 1) := by decide +kernel
theorem dX3_solve_39 : decode cX3_solve 39 = .ok (.aload_n 1, 1) := by decide +kernel
theorem dX3_solve_40 : decode cX3_solve 40 = .ok (.getfield 24, 3) := by decide +kernel
theorem dX3_solve_43 : decode cX3_solve 43 = .ok (.iload 5, 2) := by decide +kernel
theorem dX3_solve_45 : decode cX3_solve 45 = .ok (.iadd, 1) := by decide +kernel
theorem dX3_solve_46 : decode cX3_solve 46 = .ok (.bipush 13, 2) := by decide +kernel
theorem dX3_solve_48 : decode cX3_solve 48 = .ok (.irem, 1) := by decide +kernel
theorem dX3_solve_49 : decode cX3_solve 49 = .ok (.invokevirtual 30, 3) := by decide +kernel
theorem dX3_solve_52 : decode cX3_solve 52 = .ok (.aload_n 0, 1) := by decide +kernel
theorem dX3_solve_53 : decode cX3_solve 53 = .ok (.invokevirtual 34, 3) := by decide +kernel
theorem dX3_solve_56 : decode cX3_solve 56 = .ok (.iinc 5 (-1), 3) := by decide +kernel
theorem dX3_solve_59 : decode cX3_solve 59 = .ok (.goto (-29), 3) := by decide +kernel
theorem dX3_solve_62 : decode cX3_solve 62 = .ok (.aload_n 0, 1) := by decide +kernel
theorem dX3_solve_63 : decode cX3_solve 63 = .ok (.aload_n 1, 1) := by decide +kernel
theorem dX3_solve_64 : decode cX3_solve 64 = .ok (.iload_n 2, 1) := by decide +kernel
theorem dX3_solve_65 : decode cX3_solve 65 = .ok (.iload_n 3, 1) := by decide +kernel
theorem dX3_solve_66 : decode cX3_solve 66 = .ok (.aload_n 1, 1) := by decide +kernel
theorem dX3_solve_67 : decode cX3_solve 67 = .ok (.getfield 24, 3) := by decide +kernel
theorem dX3_solve_70 : decode cX3_solve 70 = .ok (.invokevirtual 30, 3) := by decide +kernel
theorem dX3_solve_73 : decode cX3_solve 73 = .ok (.aload_n 0, 1) := by decide +kernel
theorem dX3_solve_74 : decode cX3_solve 74 = .ok (.aload_n 0, 1) := by decide +kernel
theorem dX3_solve_75 : decode cX3_solve 75 = .ok (.aload_n 1, 1) := by decide +kernel
theorem dX3_solve_76 : decode cX3_solve 76 = .ok (.getfield 37, 3) := by decide +kernel
theorem dX3_solve_79 : decode cX3_solve 79 = .ok (.iload_n 2, 1) := by decide +kernel
theorem dX3_solve_80 : decode cX3_solve 80 = .ok (.iaload, 1) := by decide +kernel
theorem dX3_solve_81 : decode cX3_solve 81 = .ok (.aload_n 1, 1) := by decide +kernel
theorem dX3_solve_82 : decode cX3_solve 82 = .ok (.getfield 37, 3) := by decide +kernel
theorem dX3_solve_85 : decode cX3_solve 85 = .ok (.iload_n 3, 1) := by decide +kernel
theorem dX3_solve_86 : decode cX3_solve 86 = .ok (.iaload, 1) := by decide +kernel
theorem dX3_solve_87 : decode cX3_solve 87 = .ok (.invokevirtual 40, 3) := by decide +kernel
theorem dX3_solve_90 : decode cX3_solve 90 = .ok (.putfield 44, 3) := by decide +kernel
theorem dX3_solve_93 : decode cX3_solve 93 = .ok (.aload_n 0, 1) := by decide +kernel
theorem dX3_solve_94 : decode cX3_solve 94 = .ok (.aload_n 0, 1) := by decide +kernel
theorem dX3_solve_95 : decode cX3_solve 95 = .ok (.aload_n 1, 1) := by decide +kernel
theorem dX3_solve_96 : decode cX3_solve 96 = .ok (.getfield 37, 3) := by decide +kernel
theorem dX3_solve_99 : decode cX3_solve 99 = .ok (.iload_n 2, 1) := by decide +kernel
theorem dX3_solve_100 : decode cX3_solve 100 = .ok (.iaload, 1) := by decide +kernel
theorem dX3_solve_101 : decode cX3_solve 101 = .ok (.aload_n 0, 1) := by decide +kernel
theorem dX3_solve_102 : decode cX3_solve 102 = .ok (.getfield 44, 3) := by decide +kernel
theorem dX3_solve_105 : decode cX3_solve 105 = .ok (.iadd, 1) := by decide +kernel
theorem dX3_solve_106 : decode cX3_solve 106 = .ok (.iconst 1, 1) := by decide +kernel
theorem dX3_solve_107 : decode cX3_solve 107 = .ok (.isub, 1) := by decide +kernel
theorem dX3_solve_108 : decode cX3_solve 108 = .ok (.aload_n 1, 1) := by decide +kernel
theorem dX3_solve_109 : decode cX3_solve 109 = .ok (.getfield 37, 3) := by decide +kernel
theorem dX3_solve_112 : decode cX3_solve 112 = .ok (.iload_n 3, 1) := by decide +kernel
theorem dX3_solve_113 : decode cX3_solve 113 = .ok (.iaload, 1) := by decide +kernel
theorem dX3_solve_114 : decode cX3_solve 114 = .ok (.invokevirtual 47, 3) := by decide +kernel
theorem dX3_solve_117 : decode cX3_solve 117 = .ok (.putfield 50, 3) := by decide +kernel
theorem dX3_solve_120 : decode cX3_solve 120 = .ok (.return_, 1) := by decide +kernel
theorem dX3_weigh_0 : decode cX3_weigh 0 = .ok (.iconst 0, 1) := by decide +kernel
theorem dX3_weigh_1 : decode cX3_weigh 1 = .ok (.istore 5, 2) := by decide +kernel
theorem dX3_weigh_3 : decode cX3_weigh 3 = .ok (.iload 5, 2) := by decide +kernel
theorem dX3_weigh_5 : decode cX3_weigh 5 = .ok (.bipush 10, 2) := by decide +kernel
theorem dX3_weigh_7 : decode cX3_weigh 7 = .ok (.if_icmp .ge 61, 3) := by decide +kernel
theorem dX3_weigh_10 : decode cX3_weigh 10 = .ok (.aload_n 0, 1) := by decide +kernel
theorem dX3_weigh_11 : decode cX3_weigh 11 = .ok (.getfield 9, 3) := by decide +kernel
theorem dX3_weigh_14 : decode cX3_weigh 14 = .ok (.iload 5, 2) := by decide +kernel
theorem dX3_weigh_16 : decode cX3_weigh 16 = .ok (.aload_n 1, 1) := by decide +kernel
theorem dX3_weigh_17 : decode cX3_weigh 17 = .ok (.aload_n 1, 1) := by decide +kernel
theorem dX3_weigh_18 : decode cX3_weigh 18 = .ok (.iload_n 2, 1) := by decide +kernel
theorem dX3_weigh_19 : decode cX3_weigh 19 = .ok (.aload_n 1, 1) := by decide +kernel
theorem dX3_weigh_20 : decode cX3_weigh 20 = .ok (.getfield 53, 3) := by decide +kernel
theorem dX3_weigh_23 : decode cX3_weigh 23 = .ok (.iload_n 2, 1) := by decide +kernel
theorem dX3_weigh_24 : decode cX3_weigh 24 = .ok (.iaload, 1) := by decide +kernel
theorem dX3_weigh_25 : decode cX3_weigh 25 = .ok (.iload 5, 2) := by decide +kernel
theorem dX3_weigh_27 : decode cX3_weigh 27 = .ok (.iload 4, 2) := by decide +kernel
theorem dX3_weigh_29 : decode cX3_weigh 29 = .ok (.invokevirtual 56, 3) := by decide +kernel
theorem dX3_weigh_32 : decode cX3_weigh 32 = .ok (.invokevirtual 60, 3) := by decide +kernel
theorem dX3_weigh_35 : decode cX3_weigh 35 = .ok (.iastore, 1) := by decide +kernel
theorem dX3_weigh_36 : decode cX3_weigh 36 = .ok (.aload_n 0, 1) := by decide +kernel
theorem dX3_weigh_37 : decode cX3_weigh 37 = .ok (.getfield 15, 3) := by decide +kernel
theorem dX3_weigh_40 : decode cX3_weigh 40 = .ok (.iload 5, 2) := by decide +kernel
theorem dX3_weigh_42 : decode cX3_weigh 42 = .ok (.aload_n 1, 1) := by decide +kernel
theorem dX3_weigh_43 : decode cX3_weigh 43 = .ok (.aload_n 1, 1) := by decide +kernel
theorem dX3_weigh_44 : decode cX3_weigh 44 = .ok (.iload_n 3, 1) := by decide +kernel
theorem dX3_weigh_45 : decode cX3_weigh 45 = .ok (.aload_n 1, 1) := by decide +kernel
theorem dX3_weigh_46 : decode cX3_weigh 46 = .ok (.getfield 53, 3) := by decide +kernel
theorem dX3_weigh_49 : decode cX3_weigh 49 = .ok (.iload_n 3, 1) := by decide +kernel
theorem dX3_weigh_50 : decode cX3_weigh 50 = .ok (.iaload, 1) := by decide +kernel
theorem dX3_weigh_51 : decode cX3_weigh 51 = .ok (.iload 5, 2) := by decide +kernel
theorem dX3_weigh_53 : decode cX3_weigh 53 = .ok (.iload 4, 2) := by decide +kernel
theorem dX3_weigh_55 : decode cX3_weigh 55 = .ok (.invokevirtual 56, 3) := by decide +kernel
theorem dX3_weigh_58 : decode cX3_weigh 58 = .ok (.invokevirtual 60, 3) := by decide +kernel
theorem dX3_weigh_61 : decode cX3_weigh 61 = .ok (.iastore, 1) := by decide +kernel
theorem dX3_weigh_62 : decode cX3_weigh 62 = .ok (.iinc 5 1, 3) := by decide +kernel
theorem dX3_weigh_65 : decode cX3_weigh 65 = .ok (.goto (-62), 3) := by decide +kernel
theorem dX3_weigh_68 : decode cX3_weigh 68 = .ok (.return_, 1) := by decide +kernel
theorem dX3_goBackAnHour_0 : decode cX3_goBackAnHour 0 = .ok (.iconst 0, 1) := by decide +kernel
theorem dX3_goBackAnHour_1 : decode cX3_goBackAnHour 1 = .ok (.istore_n 1, 1) := by decide +kernel
theorem dX3_goBackAnHour_2 : decode cX3_goBackAnHour 2 = .ok (.iload_n 1, 1) := by decide +kernel
theorem dX3_goBackAnHour_3 : decode cX3_goBackAnHour 3 = .ok (.bipush 10, 2) := by decide +kernel
theorem dX3_goBackAnHour_5 : decode cX3_goBackAnHour 5 = .ok (.if_icmp .ge 51, 3) := by decide +kernel
theorem dX3_goBackAnHour_8 : decode cX3_goBackAnHour 8 = .ok (.iconst 0, 1) := by decide +kernel
theorem dX3_goBackAnHour_9 : decode cX3_goBackAnHour 9 = .ok (.istore_n 2, 1) := by decide +kernel
theorem dX3_goBackAnHour_10 : decode cX3_goBackAnHour 10 = .ok (.iload_n 2, 1) := by decide +kernel
theorem dX3_goBackAnHour_11 : decode cX3_goBackAnHour 11 = .ok (.bipush 10, 2) := by decide +kernel
theorem dX3_goBackAnHour_13 : decode cX3_goBackAnHour 13 = .ok (.if_icmp .ge 37, 3) := by decide +kernel
theorem dX3_goBackAnHour_16 : decode cX3_goBackAnHour 16 = .ok (.iload_n 1, 1) := by decide +kernel
theorem dX3_goBackAnHour_17 : decode cX3_goBackAnHour 17 = .ok (.aload_n 0, 1) := by decide +kernel
theorem dX3_goBackAnHour_18 : decode cX3_goBackAnHour 18 = .ok (.iload_n 1, 1) := by decide +kernel
theorem dX3_goBackAnHour_19 : decode cX3_goBackAnHour 19 = .ok (.iload_n 2, 1) := by decide +kernel
theorem dX3_goBackAnHour_20 : decode cX3_goBackAnHour 20 = .ok (.invokevirtual 40, 3) := by decide +kernel
theorem dX3_goBackAnHour_23 : decode cX3_goBackAnHour 23 = .ok (.iadd, 1) := by decide +kernel
theorem dX3_goBackAnHour_24 : decode cX3_goBackAnHour 24 = .ok (.iconst 1, 1) := by decide +kernel
theorem dX3_goBackAnHour_25 : decode cX3_goBackAnHour 25 = .ok (.isub, 1) := by decide +kernel
theorem dX3_goBackAnHour_26 : decode cX3_goBackAnHour 26 = .ok (.istore_n 3, 1) := by decide +kernel
theorem dX3_goBackAnHour_27 : decode cX3_goBackAnHour 27 = .ok (.aload_n 0, 1) := by decide +kernel
theorem dX3_goBackAnHour_28 : decode cX3_goBackAnHour 28 = .ok (.getfield 18, 3) := by decide +kernel
theorem dX3_goBackAnHour_31 : decode cX3_goBackAnHour 31 = .ok (.iload_n 1, 1) := by decide +kernel
theorem dX3_goBackAnHour_32 : decode cX3_goBackAnHour 32 = .ok (.bipush 10, 2) := by decide +kernel
theorem dX3_goBackAnHour_34 : decode cX3_goBackAnHour 34 = .ok (.imul, 1) := by decide +kernel
theorem dX3_goBackAnHour_35 : decode cX3_goBackAnHour 35 = .ok (.iload_n 2, 1) := by decide +kernel
theorem dX3_goBackAnHour_36 : decode cX3_goBackAnHour 36 = .ok (.iadd, 1) := by decide +kernel
theorem dX3_goBackAnHour_37 : decode cX3_goBackAnHour 37 = .ok (.aload_n 0, 1) := by decide +kernel
theorem dX3_goBackAnHour_38 : decode cX3_goBackAnHour 38 = .ok (.iload_n 3, 1) := by decide +kernel
theorem dX3_goBackAnHour_39 : decode cX3_goBackAnHour 39 = .ok (.iload_n 2, 1) := by decide +kernel
theorem dX3_goBackAnHour_40 : decode cX3_goBackAnHour 40 = .ok (.invokevirtual 47, 3) := by decide +kernel
theorem dX3_goBackAnHour_43 : decode cX3_goBackAnHour 43 = .ok (.iastore, 1) := by decide +kernel
theorem dX3_goBackAnHour_44 : decode cX3_goBackAnHour 44 = .ok (.iinc 2 1, 3) := by decide +kernel
theorem dX3_goBackAnHour_47 : decode cX3_goBackAnHour 47 = .ok (.goto (-37), 3) := by decide +kernel
theorem dX3_goBackAnHour_50 : decode cX3_goBackAnHour 50 = .ok (.iinc 1 1, 3) := by decide +kernel
theorem dX3_goBackAnHour_53 : decode cX3_goBackAnHour 53 = .ok (.goto (-51), 3) := by decide +kernel
theorem dX3_goBackAnHour_56 : decode cX3_goBackAnHour 56 = .ok (.aload_n 0, 1) := by decide +kernel
theorem dX3_goBackAnHour_57 : decode cX3_goBackAnHour 57 = .ok (.getfield 18, 3) := by decide +kernel
theorem dX3_goBackAnHour_60 : decode cX3_goBackAnHour 60 = .ok (.iconst 0, 1) := by decide +kernel
theorem dX3_goBackAnHour_61 : decode cX3_goBackAnHour 61 = .ok (.aload_n 0, 1) := by decide +kernel
theorem dX3_goBackAnHour_62 : decode cX3_goBackAnHour 62 = .ok (.getfield 21, 3) := by decide +kernel
theorem dX3_goBackAnHour_65 : decode cX3_goBackAnHour 65 = .ok (.iconst 0, 1) := by decide +kernel
theorem dX3_goBackAnHour_66 : decode cX3_goBackAnHour 66 = .ok (.bipush 100, 2) := by decide +kernel
theorem dX3_goBackAnHour_68 : decode cX3_goBackAnHour 68 = .ok (.invokestatic 64, 3) := by decide +kernel
theorem dX3_goBackAnHour_71 : decode cX3_goBackAnHour 71 = .ok (.return_, 1) := by decide +kernel
theorem dX3_bestStep_0 : decode cX3_bestStep 0 = .ok (.iconst 1, 1) := by decide +kernel
theorem dX3_bestStep_1 : decode cX3_bestStep 1 = .ok (.istore_n 3, 1) := by decide +kernel
theorem dX3_bestStep_2 : decode cX3_bestStep 2 = .ok (.sipush (-500), 3) := by decide +kernel
theorem dX3_bestStep_5 : decode cX3_bestStep 5 = .ok (.istore 4, 2) := by decide +kernel
theorem dX3_bestStep_7 : decode cX3_bestStep 7 = .ok (.iconst 0, 1) := by decide +kernel
theorem dX3_bestStep_8 : decode cX3_bestStep 8 = .ok (.istore 5, 2) := by decide +kernel
theorem dX3_bestStep_10 : decode cX3_bestStep 10 = .ok (.iload 5, 2) := by decide +kernel
theorem dX3_bestStep_12 : decode cX3_bestStep 12 = .ok (.iconst 2, 1) := by decide +kernel
theorem dX3_bestStep_13 : decode cX3_bestStep 13 = .ok (.if_icmp .gt 53, 3) := by decide +kernel
theorem dX3_bestStep_16 : decode cX3_bestStep 16 = .ok (.iload_n 1, 1) := by decide +kernel
theorem dX3_bestStep_17 : decode cX3_bestStep 17 = .ok (.iload 5, 2) := by decide +kernel
theorem dX3_bestStep_19 : decode cX3_bestStep 19 = .ok (.iadd, 1) := by decide +kernel
theorem dX3_bestStep_20 : decode cX3_bestStep 20 = .ok (.iconst 1, 1) := by decide +kernel
theorem dX3_bestStep_21 : decode cX3_bestStep 21 = .ok (.isub, 1) := by decide +kernel
theorem dX3_bestStep_22 : decode cX3_bestStep 22 = .ok (.istore 6, 2) := by decide +kernel
theorem dX3_bestStep_24 : decode cX3_bestStep 24 = .ok (.iload_n 1, 1) := by decide +kernel
theorem dX3_bestStep_25 : decode cX3_bestStep 25 = .ok (.iload 6, 2) := by decide +kernel
theorem dX3_bestStep_27 : decode cX3_bestStep 27 = .ok (.iload_n 2, 1) := by decide +kernel
theorem dX3_bestStep_28 : decode cX3_bestStep 28 = .ok (.invokestatic 70, 3) := by decide +kernel
theorem dX3_bestStep_31 : decode cX3_bestStep 31 = .ok (.ifCond .ne 6, 3) := by decide +kernel
theorem dX3_bestStep_34 : decode cX3_bestStep 34 = .ok (.goto 26, 3) := by decide +kernel
theorem dX3_bestStep_37 : decode cX3_bestStep 37 = .ok (.aload_n 0, 1) := by decide +kernel
theorem dX3_bestStep_38 : decode cX3_bestStep 38 = .ok (.iload 6, 2) := by decide +kernel
theorem dX3_bestStep_40 : decode cX3_bestStep 40 = .ok (.iload_n 2, 1) := by decide +kernel
theorem dX3_bestStep_41 : decode cX3_bestStep 41 = .ok (.invokevirtual 47, 3) := by decide +kernel
theorem dX3_bestStep_44 : decode cX3_bestStep 44 = .ok (.istore 7, 2) := by decide +kernel
theorem dX3_bestStep_46 : decode cX3_bestStep 46 = .ok (.iload 7, 2) := by decide +kernel
theorem dX3_bestStep_48 : decode cX3_bestStep 48 = .ok (.iload 4, 2) := by decide +kernel
theorem dX3_bestStep_50 : decode cX3_bestStep 50 = .ok (.if_icmp .le 10, 3) := by decide +kernel
theorem dX3_bestStep_53 : decode cX3_bestStep 53 = .ok (.iload 7, 2) := by decide +kernel
theorem dX3_bestStep_55 : decode cX3_bestStep 55 = .ok (.istore 4, 2) := by decide +kernel
theorem dX3_bestStep_57 : decode cX3_bestStep 57 = .ok (.iload 5, 2) := by decide +kernel
theorem dX3_bestStep_59 : decode cX3_bestStep 59 = .ok (.istore_n 3, 1) := by decide +kernel
theorem dX3_bestStep_60 : decode cX3_bestStep 60 = .ok (.iinc 5 1, 3) := by decide +kernel
theorem dX3_bestStep_63 : decode cX3_bestStep 63 = .ok (.goto (-53), 3) := by decide +kernel
theorem dX3_bestStep_66 : decode cX3_bestStep 66 = .ok (.iload_n 3, 1) := by decide +kernel
theorem dX3_bestStep_67 : decode cX3_bestStep 67 = .ok (.ireturn, 1) := by decide +kernel
theorem dX3_afterAStood_0 : decode cX3_afterAStood 0 = .ok (.sipush 500, 3) := by decide +kernel
theorem dX3_afterAStood_3 : decode cX3_afterAStood 3 = .ok (.istore_n 3, 1) := by decide +kernel
theorem dX3_afterAStood_4 : decode cX3_afterAStood 4 = .ok (.iload_n 2, 1) := by decide +kernel
theorem dX3_afterAStood_5 : decode cX3_afterAStood 5 = .ok (.iconst 1, 1) := by decide +kernel
theorem dX3_afterAStood_6 : decode cX3_afterAStood 6 = .ok (.isub, 1) := by decide +kernel
theorem dX3_afterAStood_7 : decode cX3_afterAStood 7 = .ok (.istore 4, 2) := by decide +kernel
theorem dX3_afterAStood_9 : decode cX3_afterAStood 9 = .ok (.iload 4, 2) := by decide +kernel
theorem dX3_afterAStood_11 : decode cX3_afterAStood 11 = .ok (.iload_n 2, 1) := by decide +kernel
theorem dX3_afterAStood_12 : decode cX3_afterAStood 12 = .ok (.iconst 1, 1) := by decide +kernel
theorem dX3_afterAStood_13 : decode cX3_afterAStood 13 = .ok (.iadd, 1) := by decide +kernel
theorem dX3_afterAStood_14 : decode cX3_afterAStood 14 = .ok (.if_icmp .gt 54, 3) := by decide +kernel
theorem dX3_afterAStood_17 : decode cX3_afterAStood 17 = .ok (.iload_n 2, 1) := by decide +kernel
theorem dX3_afterAStood_18 : decode cX3_afterAStood 18 = .ok (.iload 4, 2) := by decide +kernel
theorem dX3_afterAStood_20 : decode cX3_afterAStood 20 = .ok (.iload_n 1, 1) := by decide +kernel
theorem dX3_afterAStood_21 : decode cX3_afterAStood 21 = .ok (.invokestatic 70, 3) := by decide +kernel
theorem dX3_afterAStood_24 : decode cX3_afterAStood 24 = .ok (.ifCond .ne 6, 3) := by decide +kernel
theorem dX3_afterAStood_27 : decode cX3_afterAStood 27 = .ok (.goto 35, 3) := by decide +kernel
theorem dX3_afterAStood_30 : decode cX3_afterAStood 30 = .ok (.iload_n 3, 1) := by decide +kernel
theorem dX3_afterAStood_31 : decode cX3_afterAStood 31 = .ok (.aload_n 0, 1) := by decide +kernel
theorem dX3_afterAStood_32 : decode cX3_afterAStood 32 = .ok (.getfield 9, 3) := by decide +kernel
theorem dX3_afterAStood_35 : decode cX3_afterAStood 35 = .ok (.iload_n 1, 1) := by decide +kernel
theorem dX3_afterAStood_36 : decode cX3_afterAStood 36 = .ok (.iaload, 1) := by decide +kernel
theorem dX3_afterAStood_37 : decode cX3_afterAStood 37 = .ok (.aload_n 0, 1) := by decide +kernel
theorem dX3_afterAStood_38 : decode cX3_afterAStood 38 = .ok (.getfield 15, 3) := by decide +kernel
theorem dX3_afterAStood_41 : decode cX3_afterAStood 41 = .ok (.iload 4, 2) := by decide +kernel
theorem dX3_afterAStood_43 : decode cX3_afterAStood 43 = .ok (.iaload, 1) := by decide +kernel
theorem dX3_afterAStood_44 : decode cX3_afterAStood 44 = .ok (.isub, 1) := by decide +kernel
theorem dX3_afterAStood_45 : decode cX3_afterAStood 45 = .ok (.aload_n 0, 1) := by decide +kernel
theorem dX3_afterAStood_46 : decode cX3_afterAStood 46 = .ok (.getfield 21, 3) := by decide +kernel
theorem dX3_afterAStood_49 : decode cX3_afterAStood 49 = .ok (.iload_n 1, 1) := by decide +kernel
theorem dX3_afterAStood_50 : decode cX3_afterAStood 50 = .ok (.bipush 10, 2) := by decide +kernel
theorem dX3_afterAStood_52 : decode cX3_afterAStood 52 = .ok (.imul, 1) := by decide +kernel
theorem dX3_afterAStood_53 : decode cX3_afterAStood 53 = .ok (.iload 4, 2) := by decide +kernel
theorem dX3_afterAStood_55 : decode cX3_afterAStood 55 = .ok (.iadd, 1) := by decide +kernel
theorem dX3_afterAStood_56 : decode cX3_afterAStood 56 = .ok (.iaload, 1) := by decide +kernel
theorem dX3_afterAStood_57 : decode cX3_afterAStood 57 = .ok (.iadd, 1) := by decide +kernel
theorem dX3_afterAStood_58 : decode cX3_afterAStood 58 = .ok (.invokestatic 74, 3) := by decide +kernel
theorem dX3_afterAStood_61 : decode cX3_afterAStood 61 = .ok (.istore_n 3, 1) := by decide +kernel
theorem dX3_afterAStood_62 : decode cX3_afterAStood 62 = .ok (.iinc 4 1, 3) := by decide +kernel
theorem dX3_afterAStood_65 : decode cX3_afterAStood 65 = .ok (.goto (-56), 3) := by decide +kernel
theorem dX3_afterAStood_68 : decode cX3_afterAStood 68 = .ok (.iload_n 3, 1) := by decide +kernel
theorem dX3_afterAStood_69 : decode cX3_afterAStood 69 = .ok (.ireturn, 1) := by decide +kernel
theorem dX3_mayStand_0 : decode cX3_mayStand 0 = .ok (.iload_n 1, 1) := by decide +kernel
theorem dX3_mayStand_1 : decode cX3_mayStand 1 = .ok (.invokestatic 79, 3) := by decide +kernel
theorem dX3_mayStand_4 : decode cX3_mayStand 4 = .ok (.ifCond .eq 17, 3) := by decide +kernel
theorem dX3_mayStand_7 : decode cX3_mayStand 7 = .ok (.iload_n 1, 1) := by decide +kernel
theorem dX3_mayStand_8 : decode cX3_mayStand 8 = .ok (.iload_n 0, 1) := by decide +kernel
theorem dX3_mayStand_9 : decode cX3_mayStand 9 = .ok (.if_icmp .eq 8, 3) := by decide +kernel
theorem dX3_mayStand_12 : decode cX3_mayStand 12 = .ok (.iload_n 1, 1) := by decide +kernel
theorem dX3_mayStand_13 : decode cX3_mayStand 13 = .ok (.iload_n 2, 1) := by decide +kernel
theorem dX3_mayStand_14 : decode cX3_mayStand 14 = .ok (.if_icmp .eq 7, 3) := by decide +kernel
theorem dX3_mayStand_17 : decode cX3_mayStand 17 = .ok (.iconst 1, 1) := by decide +kernel
theorem dX3_mayStand_18 : decode cX3_mayStand 18 = .ok (.goto 4, 3) := by decide +kernel
theorem dX3_mayStand_21 : decode cX3_mayStand 21 = .ok (.iconst 0, 1) := by decide +kernel
theorem dX3_mayStand_22 : decode cX3_mayStand 22 = .ok (.ireturn, 1) := by decide +kernel
theorem dX4_init_0 : decode cX4_init 0 = .ok (.aload_n 0, 1) := by decide +kernel
theorem dX4_init_1 : decode cX4_init 1 = .ok (.iconst 1, 1) := by decide +kernel
theorem dX4_init_2 : decode cX4_init 2 = .ok (.iconst 2, 1) := by decide +kernel
theorem dX4_init_3 : decode cX4_init 3 = .ok (.invokespecial 5, 3) := by decide +kernel
theorem dX4_init_6 : decode cX4_init 6 = .ok (.return_, 1) := by decide +kernel
theorem dX4_init__0 : decode cX4_init_ 0 = .ok (.aload_n 0, 1) := by decide +kernel
theorem dX4_init__1 : decode cX4_init_ 1 = .ok (.iload_n 1, 1) := by decide +kernel
theorem dX4_init__2 : decode cX4_init_ 2 = .ok (.iload_n 2, 1) := by decide +kernel
theorem dX4_init__3 : decode cX4_init_ 3 = .ok (.invokespecial 9, 3) := by decide +kernel
theorem dX4_init__6 : decode cX4_init_ 6 = .ok (.return_, 1) := by decide +kernel
theorem dX5_init_0 : decode cX5_init 0 = .ok (.aload_n 0, 1) := by decide +kernel
theorem dX5_init_1 : decode cX5_init 1 = .ok (.invokespecial 3, 3) := by decide +kernel
theorem dX5_init_4 : decode cX5_init 4 = .ok (.aload_n 0, 1) := by decide +kernel
theorem dX5_init_5 : decode cX5_init 5 = .ok (.iload_n 1, 1) := by decide +kernel
theorem dX5_init_6 : decode cX5_init 6 = .ok (.putfield 9, 3) := by decide +kernel
theorem dX5_init_9 : decode cX5_init 9 = .ok (.aload_n 0, 1) := by decide +kernel
theorem dX5_init_10 : decode cX5_init 10 = .ok (.iload_n 2, 1) := by decide +kernel
theorem dX5_init_11 : decode cX5_init 11 = .ok (.putfield 15, 3) := by decide +kernel
theorem dX5_init_14 : decode cX5_init 14 = .ok (.return_, 1) := by decide +kernel
theorem dX5_shade_0 : decode cX5_shade 0 = .ok (.aload_n 0, 1) := by decide +kernel
theorem dX5_shade_1 : decode cX5_shade 1 = .ok (.iload_n 1, 1) := by decide +kernel
theorem dX5_shade_2 : decode cX5_shade 2 = .ok (.iload_n 3, 1) := by decide +kernel
theorem dX5_shade_3 : decode cX5_shade 3 = .ok (.invokevirtual 18, 3) := by decide +kernel
theorem dX5_shade_6 : decode cX5_shade 6 = .ok (.istore 4, 2) := by decide +kernel
theorem dX5_shade_8 : decode cX5_shade 8 = .ok (.iload_n 3, 1) := by decide +kernel
theorem dX5_shade_9 : decode cX5_shade 9 = .ok (.bipush 6, 2) := by decide +kernel
theorem dX5_shade_11 : decode cX5_shade 11 = .ok (.if_icmp .ge 12, 3) := by decide +kernel
theorem dX5_shade_14 : decode cX5_shade 14 = .ok (.iload_n 2, 1) := by decide +kernel
theorem dX5_shade_15 : decode cX5_shade 15 = .ok (.iload 4, 2) := by decide +kernel
theorem dX5_shade_17 : decode cX5_shade 17 = .ok (.invokestatic 22, 3) := by decide +kernel
theorem dX5_shade_20 : decode cX5_shade 20 = .ok (.goto 9, 3) := by decide +kernel
theorem dX5_shade_23 : decode cX5_shade 23 = .ok (.iload_n 2, 1) := by decide +kernel
theorem dX5_shade_24 : decode cX5_shade 24 = .ok (.iload 4, 2) := by decide +kernel
theorem dX5_shade_26 : decode cX5_shade 26 = .ok (.invokestatic 25, 3) := by decide +kernel
theorem dX5_shade_29 : decode cX5_shade 29 = .ok (.ireturn, 1) := by decide +kernel
theorem dX5_length_0 : decode cX5_length 0 = .ok (.iload_n 2, 1) := by decide +kernel
theorem dX5_length_1 : decode cX5_length 1 = .ok (.bipush 6, 2) := by decide +kernel
theorem dX5_length_3 : decode cX5_length 3 = .ok (.if_icmp .ge 10, 3) := by decide +kernel
theorem dX5_length_6 : decode cX5_length 6 = .ok (.bipush 6, 2) := by decide +kernel
theorem dX5_length_8 : decode cX5_length 8 = .ok (.iload_n 2, 1) := by decide +kernel
theorem dX5_length_9 : decode cX5_length 9 = .ok (.isub, 1) := by decide +kernel
theorem dX5_length_10 : decode cX5_length 10 = .ok (.goto 7, 3) := by decide +kernel
theorem dX5_length_13 : decode cX5_length 13 = .ok (.iload_n 2, 1) := by decide +kernel
theorem dX5_length_14 : decode cX5_length 14 = .ok (.bipush 6, 2) := by decide +kernel
theorem dX5_length_16 : decode cX5_length 16 = .ok (.isub, 1) := by decide +kernel
theorem dX5_length_17 : decode cX5_length 17 = .ok (.istore_n 3, 1) := by decide +kernel
theorem dX5_length_18 : decode cX5_length 18 = .ok (.iload_n 1, 1) := by decide +kernel
theorem dX5_length_19 : decode cX5_length 19 = .ok (.aload_n 0, 1) := by decide +kernel
theorem dX5_length_20 : decode cX5_length 20 = .ok (.getfield 15, 3) := by decide +kernel
theorem dX5_length_23 : decode cX5_length 23 = .ok (.iadd, 1) := by decide +kernel
theorem dX5_length_24 : decode cX5_length 24 = .ok (.iload_n 3, 1) := by decide +kernel
theorem dX5_length_25 : decode cX5_length 25 = .ok (.imul, 1) := by decide +kernel
theorem dX5_length_26 : decode cX5_length 26 = .ok (.iconst 3, 1) := by decide +kernel
theorem dX5_length_27 : decode cX5_length 27 = .ok (.idiv, 1) := by decide +kernel
theorem dX5_length_28 : decode cX5_length 28 = .ok (.ireturn, 1) := by decide +kernel
theorem dX5_west_0 : decode cX5_west 0 = .ok (.iload_n 0, 1) := by decide +kernel
theorem dX5_west_1 : decode cX5_west 1 = .ok (.iload_n 1, 1) := by decide +kernel
theorem dX5_west_2 : decode cX5_west 2 = .ok (.if_icmp .le 9, 3) := by decide +kernel
theorem dX5_west_5 : decode cX5_west 5 = .ok (.iload_n 0, 1) := by decide +kernel
theorem dX5_west_6 : decode cX5_west 6 = .ok (.iload_n 1, 1) := by decide +kernel
theorem dX5_west_7 : decode cX5_west 7 = .ok (.isub, 1) := by decide +kernel
theorem dX5_west_8 : decode cX5_west 8 = .ok (.goto 4, 3) := by decide +kernel
theorem dX5_west_11 : decode cX5_west 11 = .ok (.iconst 0, 1) := by decide +kernel
theorem dX5_west_12 : decode cX5_west 12 = .ok (.istore_n 2, 1) := by decide +kernel
theorem dX5_west_13 : decode cX5_west 13 = .ok (.iconst 1, 1) := by decide +kernel
theorem dX5_west_14 : decode cX5_west 14 = .ok (.iload_n 0, 1) := by decide +kernel
theorem dX5_west_15 : decode cX5_west 15 = .ok (.ishl, 1) := by decide +kernel
theorem dX5_west_16 : decode cX5_west 16 = .ok (.iconst 1, 1) := by decide +kernel
theorem dX5_west_17 : decode cX5_west 17 = .ok (.iload_n 2, 1) := by decide +kernel
theorem dX5_west_18 : decode cX5_west 18 = .ok (.ishl, 1) := by decide +kernel
theorem dX5_west_19 : decode cX5_west 19 = .ok (.isub, 1) := by decide +kernel
theorem dX5_west_20 : decode cX5_west 20 = .ok (.ireturn, 1) := by decide +kernel
theorem dX5_east_0 : decode cX5_east 0 = .ok (.iload_n 0, 1) := by decide +kernel
theorem dX5_east_1 : decode cX5_east 1 = .ok (.iload_n 1, 1) := by decide +kernel
theorem dX5_east_2 : decode cX5_east 2 = .ok (.iadd, 1) := by decide +kernel
theorem dX5_east_3 : decode cX5_east 3 = .ok (.bipush 10, 2) := by decide +kernel
theorem dX5_east_5 : decode cX5_east 5 = .ok (.if_icmp .ge 9, 3) := by decide +kernel
theorem dX5_east_8 : decode cX5_east 8 = .ok (.iload_n 0, 1) := by decide +kernel
theorem dX5_east_9 : decode cX5_east 9 = .ok (.iload_n 1, 1) := by decide +kernel
theorem dX5_east_10 : decode cX5_east 10 = .ok (.iadd, 1) := by decide +kernel
theorem dX5_east_11 : decode cX5_east 11 = .ok (.goto 5, 3) := by decide +kernel
theorem dX5_east_14 : decode cX5_east 14 = .ok (.bipush 9, 2) := by decide +kernel
theorem dX5_east_16 : decode cX5_east 16 = .ok (.istore_n 2, 1) := by decide +kernel
theorem dX5_east_17 : decode cX5_east 17 = .ok (.iconst 1, 1) := by decide +kernel
theorem dX5_east_18 : decode cX5_east 18 = .ok (.iload_n 2, 1) := by decide +kernel
theorem dX5_east_19 : decode cX5_east 19 = .ok (.iconst 1, 1) := by decide +kernel
theorem dX5_east_20 : decode cX5_east 20 = .ok (.iadd, 1) := by decide +kernel
theorem dX5_east_21 : decode cX5_east 21 = .ok (.ishl, 1) := by decide +kernel
theorem dX5_east_22 : decode cX5_east 22 = .ok (.iconst 1, 1) := by decide +kernel
theorem dX5_east_23 : decode cX5_east 23 = .ok (.iload_n 0, 1) := by decide +kernel
theorem dX5_east_24 : decode cX5_east 24 = .ok (.iconst 1, 1) := by decide +kernel
theorem dX5_east_25 : decode cX5_east 25 = .ok (.iadd, 1) := by decide +kernel
theorem dX5_east_26 : decode cX5_east 26 = .ok (.ishl, 1) := by decide +kernel
theorem dX5_east_27 : decode cX5_east 27 = .ok (.isub, 1) := by decide +kernel
theorem dX5_east_28 : decode cX5_east 28 = .ok (.ireturn, 1) := by decide +kernel
theorem dX6_init_0 : decode cX6_init 0 = .ok (.aload_n 0, 1) := by decide +kernel
theorem dX6_init_1 : decode cX6_init 1 = .ok (.invokespecial 5, 3) := by decide +kernel
theorem dX6_init_4 : decode cX6_init 4 = .ok (.aload_n 0, 1) := by decide +kernel
theorem dX6_init_5 : decode cX6_init 5 = .ok (.bipush 34, 2) := by decide +kernel
theorem dX6_init_7 : decode cX6_init 7 = .ok (.newarray .char, 2) := by decide +kernel
theorem dX6_init_9 : decode cX6_init 9 = .ok (.putfield 11, 3) := by decide +kernel
theorem dX6_init_12 : decode cX6_init 12 = .ok (.return_, 1) := by decide +kernel
theorem dX6_firstWrong_0 : decode cX6_firstWrong 0 = .ok (.iconst 0, 1) := by decide +kernel
theorem dX6_firstWrong_1 : decode cX6_firstWrong 1 = .ok (.istore_n 1, 1) := by decide +kernel
theorem dX6_firstWrong_2 : decode cX6_firstWrong 2 = .ok (.iload_n 1, 1) := by decide +kernel
theorem dX6_firstWrong_3 : decode cX6_firstWrong 3 = .ok (.aload_n 0, 1) := by decide +kernel
theorem dX6_firstWrong_4 : decode cX6_firstWrong 4 = .ok (.getfield 15, 3) := by decide +kernel
theorem dX6_firstWrong_7 : decode cX6_firstWrong 7 = .ok (.if_icmp .ge 17, 3) := by decide +kernel
theorem dX6_firstWrong_10 : decode cX6_firstWrong 10 = .ok (.aload_n 0, 1) := by decide +kernel
theorem dX6_firstWrong_11 : decode cX6_firstWrong 11 = .ok (.iload_n 1, 1) := by decide +kernel
theorem dX6_firstWrong_12 : decode cX6_firstWrong 12 = .ok (.invokevirtual 19, 3) := by decide +kernel
theorem dX6_firstWrong_15 : decode cX6_firstWrong 15 = .ok (.ifCond .eq 9, 3) := by decide +kernel
theorem dX6_firstWrong_18 : decode cX6_firstWrong 18 = .ok (.iinc 1 1, 3) := by decide +kernel
theorem dX6_firstWrong_21 : decode cX6_firstWrong 21 = .ok (.goto (-19), 3) := by decide +kernel
theorem dX6_firstWrong_24 : decode cX6_firstWrong 24 = .ok (.iload_n 1, 1) := by decide +kernel
theorem dX6_firstWrong_25 : decode cX6_firstWrong 25 = .ok (.ireturn, 1) := by decide +kernel
theorem dX6_isCourt_0 : decode cX6_isCourt 0 = .ok (.aload_n 0, 1) := by decide +kernel
theorem dX6_isCourt_1 : decode cX6_isCourt 1 = .ok (.getfield 15, 3) := by decide +kernel
theorem dX6_isCourt_4 : decode cX6_isCourt 4 = .ok (.bipush 18, 2) := by decide +kernel
theorem dX6_isCourt_6 : decode cX6_isCourt 6 = .ok (.if_icmp .lt 25, 3) := by decide +kernel
theorem dX6_isCourt_9 : decode cX6_isCourt 9 = .ok (.aload_n 0, 1) := by decide +kernel
theorem dX6_isCourt_10 : decode cX6_isCourt 10 = .ok (.invokevirtual 23, 3) := by decide +kernel
theorem dX6_isCourt_13 : decode cX6_isCourt 13 = .ok (.ifCond .eq 18, 3) := by decide +kernel
theorem dX6_isCourt_16 : decode cX6_isCourt 16 = .ok (.aload_n 0, 1) := by decide +kernel
theorem dX6_isCourt_17 : decode cX6_isCourt 17 = .ok (.invokevirtual 27, 3) := by decide +kernel
theorem dX6_isCourt_20 : decode cX6_isCourt 20 = .ok (.aload_n 0, 1) := by decide +kernel
theorem dX6_isCourt_21 : decode cX6_isCourt 21 = .ok (.getfield 15, 3) := by decide +kernel
theorem dX6_isCourt_24 : decode cX6_isCourt 24 = .ok (.if_icmp .ne 7, 3) := by decide +kernel
theorem dX6_isCourt_27 : decode cX6_isCourt 27 = .ok (.iconst 1, 1) := by decide +kernel
theorem dX6_isCourt_28 : decode cX6_isCourt 28 = .ok (.goto 4, 3) := by decide +kernel
theorem dX6_isCourt_31 : decode cX6_isCourt 31 = .ok (.iconst 0, 1) := by decide +kernel
theorem dX6_isCourt_32 : decode cX6_isCourt 32 = .ok (.ireturn, 1) := by decide +kernel
theorem dX6_hasWholeParties_0 : decode cX6_hasWholeParties 0 = .ok (.aload_n 0, 1) := by decide +kernel
theorem dX6_hasWholeParties_1 : decode cX6_hasWholeParties 1 = .ok (.getfield 15, 3) := by decide +kernel
theorem dX6_hasWholeParties_4 : decode cX6_hasWholeParties 4 = .ok (.iconst 1, 1) := by decide +kernel
theorem dX6_hasWholeParties_5 : decode cX6_hasWholeParties 5 = .ok (.iadd, 1) := by decide +kernel
theorem dX6_hasWholeParties_6 : decode cX6_hasWholeParties 6 = .ok (.bipush 11, 2) := by decide +kernel
theorem dX6_hasWholeParties_8 : decode cX6_hasWholeParties 8 = .ok (.isub, 1) := by decide +kernel
theorem dX6_hasWholeParties_9 : decode cX6_hasWholeParties 9 = .ok (.iconst 4, 1) := by decide +kernel
theorem dX6_hasWholeParties_10 : decode cX6_hasWholeParties 10 = .ok (.irem, 1) := by decide +kernel
theorem dX6_hasWholeParties_11 : decode cX6_hasWholeParties 11 = .ok (.ifCond .ne 7, 3) := by decide +kernel
theorem dX6_hasWholeParties_14 : decode cX6_hasWholeParties 14 = .ok (.iconst 1, 1) := by decide +kernel
theorem dX6_hasWholeParties_15 : decode cX6_hasWholeParties 15 = .ok (.goto 4, 3) := by decide +kernel
theorem dX6_hasWholeParties_18 : decode cX6_hasWholeParties 18 = .ok (.iconst 0, 1) := by decide +kernel
theorem dX6_hasWholeParties_19 : decode cX6_hasWholeParties 19 = .ok (.ireturn, 1) := by decide +kernel
theorem dX6_parties_0 : decode cX6_parties 0 = .ok (.aload_n 0, 1) := by decide +kernel
theorem dX6_parties_1 : decode cX6_parties 1 = .ok (.getfield 15, 3) := by decide +kernel
theorem dX6_parties_4 : decode cX6_parties 4 = .ok (.iconst 1, 1) := by decide +kernel
theorem dX6_parties_5 : decode cX6_parties 5 = .ok (.iadd, 1) := by decide +kernel
theorem dX6_parties_6 : decode cX6_parties 6 = .ok (.bipush 11, 2) := by decide +kernel
theorem dX6_parties_8 : decode cX6_parties 8 = .ok (.isub, 1) := by decide +kernel
theorem dX6_parties_9 : decode cX6_parties 9 = .ok (.iconst 4, 1) := by decide +kernel
theorem dX6_parties_10 : decode cX6_parties 10 = .ok (.idiv, 1) := by decide +kernel
theorem dX6_parties_11 : decode cX6_parties 11 = .ok (.ireturn, 1) := by decide +kernel
theorem dX6_digitOf_0 : decode cX6_digitOf 0 = .ok (.aload_n 0, 1) := by decide +kernel
theorem dX6_digitOf_1 : decode cX6_digitOf 1 = .ok (.getfield 11, 3) := by decide +kernel
theorem dX6_digitOf_4 : decode cX6_digitOf 4 = .ok (.bipush 11, 2) := by decide +kernel
theorem dX6_digitOf_6 : decode cX6_digitOf 6 = .ok (.iload_n 1, 1) := by decide +kernel
theorem dX6_digitOf_7 : decode cX6_digitOf 7 = .ok (.iconst 4, 1) := by decide +kernel
theorem dX6_digitOf_8 : decode cX6_digitOf 8 = .ok (.imul, 1) := by decide +kernel
theorem dX6_digitOf_9 : decode cX6_digitOf 9 = .ok (.iadd, 1) := by decide +kernel
theorem dX6_digitOf_10 : decode cX6_digitOf 10 = .ok (.iload_n 2, 1) := by decide +kernel
theorem dX6_digitOf_11 : decode cX6_digitOf 11 = .ok (.iadd, 1) := by decide +kernel
theorem dX6_digitOf_12 : decode cX6_digitOf 12 = .ok (.caload, 1) := by decide +kernel
theorem dX6_digitOf_13 : decode cX6_digitOf 13 = .ok (.bipush 48, 2) := by decide +kernel
theorem dX6_digitOf_15 : decode cX6_digitOf 15 = .ok (.isub, 1) := by decide +kernel
theorem dX6_digitOf_16 : decode cX6_digitOf 16 = .ok (.ireturn, 1) := by decide +kernel
theorem dX6_kindOf_0 : decode cX6_kindOf 0 = .ok (.aload_n 0, 1) := by decide +kernel
theorem dX6_kindOf_1 : decode cX6_kindOf 1 = .ok (.getfield 11, 3) := by decide +kernel
theorem dX6_kindOf_4 : decode cX6_kindOf 4 = .ok (.bipush 11, 2) := by decide +kernel
theorem dX6_kindOf_6 : decode cX6_kindOf 6 = .ok (.iload_n 1, 1) := by decide +kernel
theorem dX6_kindOf_7 : decode cX6_kindOf 7 = .ok (.iconst 4, 1) := by decide +kernel
theorem dX6_kindOf_8 : decode cX6_kindOf 8 = .ok (.imul, 1) := by decide +kernel
theorem dX6_kindOf_9 : decode cX6_kindOf 9 = .ok (.iadd, 1) := by decide +kernel
theorem dX6_kindOf_10 : decode cX6_kindOf 10 = .ok (.caload, 1) := by decide +kernel
theorem dX6_kindOf_11 : decode cX6_kindOf 11 = .ok (.lookupswitch 73 #[(99, 57), (104, 41), (116, 49), (117, 65)], 41) := by decide +kernel
theorem dX6_kindOf_52 : decode cX6_kindOf 52 = .ok (.new 31, 3) := by decide +kernel
theorem dX6_kindOf_55 : decode cX6_kindOf 55 = .ok (.dup, 1) := by decide +kernel
theorem dX6_kindOf_56 : decode cX6_kindOf 56 = .ok (.invokespecial 33, 3) := by decide +kernel
theorem dX6_kindOf_59 : decode cX6_kindOf 59 = .ok (.areturn, 1) := by decide +kernel
theorem dX6_kindOf_60 : decode cX6_kindOf 60 = .ok (.new 34, 3) := by decide +kernel
theorem dX6_kindOf_63 : decode cX6_kindOf 63 = .ok (.dup, 1) := by decide +kernel
theorem dX6_kindOf_64 : decode cX6_kindOf 64 = .ok (.invokespecial 36, 3) := by decide +kernel
theorem dX6_kindOf_67 : decode cX6_kindOf 67 = .ok (.areturn, 1) := by decide +kernel
theorem dX6_kindOf_68 : decode cX6_kindOf 68 = .ok (.new 37, 3) := by decide +kernel
theorem dX6_kindOf_71 : decode cX6_kindOf 71 = .ok (.dup, 1) := by decide +kernel
theorem dX6_kindOf_72 : decode cX6_kindOf 72 = .ok (.invokespecial 39, 3) := by decide +kernel
theorem dX6_kindOf_75 : decode cX6_kindOf 75 = .ok (.areturn, 1) := by decide +kernel
theorem dX6_kindOf_76 : decode cX6_kindOf 76 = .ok (.new 40, 3) := by decide +kernel
theorem dX6_kindOf_79 : decode cX6_kindOf 79 = .ok (.dup, 1) := by decide +kernel
theorem dX6_kindOf_80 : decode cX6_kindOf 80 = .ok (.invokespecial 42, 3) := by decide +kernel
theorem dX6_kindOf_83 : decode cX6_kindOf 83 = .ok (.areturn, 1) := by decide +kernel
theorem dX6_kindOf_84 : decode cX6_kindOf 84 = .ok (.new 43, 3) := by decide +kernel
theorem dX6_kindOf_87 : decode cX6_kindOf 87 = .ok (.dup, 1) := by decide +kernel
theorem dX6_kindOf_88 : decode cX6_kindOf 88 = .ok (.iconst 0, 1) := by decide +kernel
theorem dX6_kindOf_89 : decode cX6_kindOf 89 = .ok (.iconst 0, 1) := by decide +kernel
theorem dX6_kindOf_90 : decode cX6_kindOf 90 = .ok (.invokespecial 45, 3) := by decide +kernel
theorem dX6_kindOf_93 : decode cX6_kindOf 93 = .ok (.areturn, 1) := by decide +kernel
theorem dX6_fits_0 : decode cX6_fits 0 = .ok (.aload_n 0, 1) := by decide +kernel
theorem dX6_fits_1 : decode cX6_fits 1 = .ok (.getfield 11, 3) := by decide +kernel
theorem dX6_fits_4 : decode cX6_fits 4 = .ok (.iload_n 1, 1) := by decide +kernel
theorem dX6_fits_5 : decode cX6_fits 5 = .ok (.caload, 1) := by decide +kernel
theorem dX6_fits_6 : decode cX6_fits 6 = .ok (.istore_n 2, 1) := by decide +kernel
theorem dX6_fits_7 : decode cX6_fits 7 = .ok (.iload_n 1, 1) := by decide +kernel
theorem dX6_fits_8 : decode cX6_fits 8 = .ok (.bipush 10, 2) := by decide +kernel
theorem dX6_fits_10 : decode cX6_fits 10 = .ok (.if_icmp .ge 12, 3) := by decide +kernel
theorem dX6_fits_13 : decode cX6_fits 13 = .ok (.iload_n 2, 1) := by decide +kernel
theorem dX6_fits_14 : decode cX6_fits 14 = .ok (.bipush 48, 2) := by decide +kernel
theorem dX6_fits_16 : decode cX6_fits 16 = .ok (.bipush 57, 2) := by decide +kernel
theorem dX6_fits_18 : decode cX6_fits 18 = .ok (.invokestatic 48, 3) := by decide +kernel
theorem dX6_fits_21 : decode cX6_fits 21 = .ok (.ireturn, 1) := by decide +kernel
theorem dX6_fits_22 : decode cX6_fits 22 = .ok (.iload_n 1, 1) := by decide +kernel
theorem dX6_fits_23 : decode cX6_fits 23 = .ok (.bipush 10, 2) := by decide +kernel
theorem dX6_fits_25 : decode cX6_fits 25 = .ok (.if_icmp .ne 15, 3) := by decide +kernel
theorem dX6_fits_28 : decode cX6_fits 28 = .ok (.iload_n 2, 1) := by decide +kernel
theorem dX6_fits_29 : decode cX6_fits 29 = .ok (.bipush 59, 2) := by decide +kernel
theorem dX6_fits_31 : decode cX6_fits 31 = .ok (.if_icmp .ne 7, 3) := by decide +kernel
theorem dX6_fits_34 : decode cX6_fits 34 = .ok (.iconst 1, 1) := by decide +kernel
theorem dX6_fits_35 : decode cX6_fits 35 = .ok (.goto 4, 3) := by decide +kernel
theorem dX6_fits_38 : decode cX6_fits 38 = .ok (.iconst 0, 1) := by decide +kernel
theorem dX6_fits_39 : decode cX6_fits 39 = .ok (.ireturn, 1) := by decide +kernel
theorem dX6_fits_40 : decode cX6_fits 40 = .ok (.iload_n 1, 1) := by decide +kernel
theorem dX6_fits_41 : decode cX6_fits 41 = .ok (.bipush 30, 2) := by decide +kernel
theorem dX6_fits_43 : decode cX6_fits 43 = .ok (.if_icmp .lt 5, 3) := by decide +kernel
theorem dX6_fits_46 : decode cX6_fits 46 = .ok (.iconst 0, 1) := by decide +kernel
theorem dX6_fits_47 : decode cX6_fits 47 = .ok (.ireturn, 1) := by decide +kernel
theorem dX6_fits_48 : decode cX6_fits 48 = .ok (.iload_n 1, 1) := by decide +kernel
theorem dX6_fits_49 : decode cX6_fits 49 = .ok (.bipush 11, 2) := by decide +kernel
theorem dX6_fits_51 : decode cX6_fits 51 = .ok (.isub, 1) := by decide +kernel
theorem dX6_fits_52 : decode cX6_fits 52 = .ok (.iconst 4, 1) := by decide +kernel
theorem dX6_fits_53 : decode cX6_fits 53 = .ok (.irem, 1) := by decide +kernel
theorem dX6_fits_54 : decode cX6_fits 54 = .ok (.tableswitch 59 0 2 #[26, 41, 50], 26) := by decide +kernel
theorem dX6_fits_80 : decode cX6_fits 80 = .ok (.ldc 52, 2) := by decide +kernel
theorem dX6_fits_82 : decode cX6_fits 82 = .ok (.iload_n 2, 1) := by decide +kernel
theorem dX6_fits_83 : decode cX6_fits 83 = .ok (.invokevirtual 54, 3) := by decide +kernel
theorem dX6_fits_86 : decode cX6_fits 86 = .ok (.ifCond .lt 7, 3) := by decide +kernel
theorem dX6_fits_89 : decode cX6_fits 89 = .ok (.iconst 1, 1) := by decide +kernel
theorem dX6_fits_90 : decode cX6_fits 90 = .ok (.goto 4, 3) := by decide +kernel
theorem dX6_fits_93 : decode cX6_fits 93 = .ok (.iconst 0, 1) := by decide +kernel
theorem dX6_fits_94 : decode cX6_fits 94 = .ok (.ireturn, 1) := by decide +kernel
theorem dX6_fits_95 : decode cX6_fits 95 = .ok (.iload_n 2, 1) := by decide +kernel
theorem dX6_fits_96 : decode cX6_fits 96 = .ok (.bipush 49, 2) := by decide +kernel
theorem dX6_fits_98 : decode cX6_fits 98 = .ok (.bipush 57, 2) := by decide +kernel
theorem dX6_fits_100 : decode cX6_fits 100 = .ok (.invokestatic 48, 3) := by decide +kernel
theorem dX6_fits_103 : decode cX6_fits 103 = .ok (.ireturn, 1) := by decide +kernel
theorem dX6_fits_104 : decode cX6_fits 104 = .ok (.iload_n 2, 1) := by decide +kernel
theorem dX6_fits_105 : decode cX6_fits 105 = .ok (.bipush 48, 2) := by decide +kernel
theorem dX6_fits_107 : decode cX6_fits 107 = .ok (.bipush 57, 2) := by decide +kernel
theorem dX6_fits_109 : decode cX6_fits 109 = .ok (.invokestatic 48, 3) := by decide +kernel
theorem dX6_fits_112 : decode cX6_fits 112 = .ok (.ireturn, 1) := by decide +kernel
theorem dX6_fits_113 : decode cX6_fits 113 = .ok (.iload_n 2, 1) := by decide +kernel
theorem dX6_fits_114 : decode cX6_fits 114 = .ok (.bipush 44, 2) := by decide +kernel
theorem dX6_fits_116 : decode cX6_fits 116 = .ok (.if_icmp .ne 7, 3) := by decide +kernel
theorem dX6_fits_119 : decode cX6_fits 119 = .ok (.iconst 1, 1) := by decide +kernel
theorem dX6_fits_120 : decode cX6_fits 120 = .ok (.goto 4, 3) := by decide +kernel
theorem dX6_fits_123 : decode cX6_fits 123 = .ok (.iconst 0, 1) := by decide +kernel
theorem dX6_fits_124 : decode cX6_fits 124 = .ok (.ireturn, 1) := by decide +kernel
theorem dX7_init_0 : decode cX7_init 0 = .ok (.aload_n 0, 1) := by decide +kernel
theorem dX7_init_1 : decode cX7_init 1 = .ok (.iconst 4, 1) := by decide +kernel
theorem dX7_init_2 : decode cX7_init 2 = .ok (.iconst 4, 1) := by decide +kernel
theorem dX7_init_3 : decode cX7_init 3 = .ok (.invokespecial 5, 3) := by decide +kernel
theorem dX7_init_6 : decode cX7_init 6 = .ok (.return_, 1) := by decide +kernel
theorem dX8_init_0 : decode cX8_init 0 = .ok (.aload_n 0, 1) := by decide +kernel
theorem dX8_init_1 : decode cX8_init 1 = .ok (.invokespecial 3, 3) := by decide +kernel
theorem dX8_init_4 : decode cX8_init 4 = .ok (.aload_n 0, 1) := by decide +kernel
theorem dX8_init_5 : decode cX8_init 5 = .ok (.bipush 10, 2) := by decide +kernel
theorem dX8_init_7 : decode cX8_init 7 = .ok (.newarray .int, 2) := by decide +kernel
theorem dX8_init_9 : decode cX8_init 9 = .ok (.putfield 9, 3) := by decide +kernel
theorem dX8_init_12 : decode cX8_init 12 = .ok (.return_, 1) := by decide +kernel
theorem dX8_heights_0 : decode cX8_heights 0 = .ok (.iconst 0, 1) := by decide +kernel
theorem dX8_heights_1 : decode cX8_heights 1 = .ok (.istore_n 3, 1) := by decide +kernel
theorem dX8_heights_2 : decode cX8_heights 2 = .ok (.iconst 1, 1) := by decide +kernel
theorem dX8_heights_3 : decode cX8_heights 3 = .ok (.istore 4, 2) := by decide +kernel
theorem dX8_heights_5 : decode cX8_heights 5 = .ok (.iload 4, 2) := by decide +kernel
theorem dX8_heights_7 : decode cX8_heights 7 = .ok (.bipush 9, 2) := by decide +kernel
theorem dX8_heights_9 : decode cX8_heights 9 = .ok (.if_icmp .gt 29, 3) := by decide +kernel
theorem dX8_heights_12 : decode cX8_heights 12 = .ok (.aload_n 0, 1) := by decide +kernel
theorem dX8_heights_13 : decode cX8_heights 13 = .ok (.aload_n 1, 1) := by decide +kernel
theorem dX8_heights_14 : decode cX8_heights 14 = .ok (.iload_n 2, 1) := by decide +kernel
theorem dX8_heights_15 : decode cX8_heights 15 = .ok (.iload 4, 2) := by decide +kernel
theorem dX8_heights_17 : decode cX8_heights 17 = .ok (.invokevirtual 15, 3) := by decide +kernel
theorem dX8_heights_20 : decode cX8_heights 20 = .ok (.ifCond .eq 12, 3) := by decide +kernel
theorem dX8_heights_23 : decode cX8_heights 23 = .ok (.iload_n 3, 1) := by decide +kernel
theorem dX8_heights_24 : decode cX8_heights 24 = .ok (.iconst 1, 1) := by decide +kernel
theorem dX8_heights_25 : decode cX8_heights 25 = .ok (.iload 4, 2) := by decide +kernel
theorem dX8_heights_27 : decode cX8_heights 27 = .ok (.iconst 1, 1) := by decide +kernel
theorem dX8_heights_28 : decode cX8_heights 28 = .ok (.isub, 1) := by decide +kernel
theorem dX8_heights_29 : decode cX8_heights 29 = .ok (.ishl, 1) := by decide +kernel
theorem dX8_heights_30 : decode cX8_heights 30 = .ok (.ior, 1) := by decide +kernel
theorem dX8_heights_31 : decode cX8_heights 31 = .ok (.istore_n 3, 1) := by decide +kernel
theorem dX8_heights_32 : decode cX8_heights 32 = .ok (.iinc 4 1, 3) := by decide +kernel
theorem dX8_heights_35 : decode cX8_heights 35 = .ok (.goto (-30), 3) := by decide +kernel
theorem dX8_heights_38 : decode cX8_heights 38 = .ok (.iload_n 3, 1) := by decide +kernel
theorem dX8_heights_39 : decode cX8_heights 39 = .ok (.ireturn, 1) := by decide +kernel
theorem dX8_isAsSeen_0 : decode cX8_isAsSeen 0 = .ok (.iconst 0, 1) := by decide +kernel
theorem dX8_isAsSeen_1 : decode cX8_isAsSeen 1 = .ok (.istore 4, 2) := by decide +kernel
theorem dX8_isAsSeen_3 : decode cX8_isAsSeen 3 = .ok (.iload 4, 2) := by decide +kernel
theorem dX8_isAsSeen_5 : decode cX8_isAsSeen 5 = .ok (.aload_n 1, 1) := by decide +kernel
theorem dX8_isAsSeen_6 : decode cX8_isAsSeen 6 = .ok (.getfield 19, 3) := by decide +kernel
theorem dX8_isAsSeen_9 : decode cX8_isAsSeen 9 = .ok (.if_icmp .ge 68, 3) := by decide +kernel
theorem dX8_isAsSeen_12 : decode cX8_isAsSeen 12 = .ok (.aload_n 1, 1) := by decide +kernel
theorem dX8_isAsSeen_13 : decode cX8_isAsSeen 13 = .ok (.getfield 25, 3) := by decide +kernel
theorem dX8_isAsSeen_16 : decode cX8_isAsSeen 16 = .ok (.iload 4, 2) := by decide +kernel
theorem dX8_isAsSeen_18 : decode cX8_isAsSeen 18 = .ok (.iaload, 1) := by decide +kernel
theorem dX8_isAsSeen_19 : decode cX8_isAsSeen 19 = .ok (.iload_n 2, 1) := by decide +kernel
theorem dX8_isAsSeen_20 : decode cX8_isAsSeen 20 = .ok (.if_icmp .eq 6, 3) := by decide +kernel
theorem dX8_isAsSeen_23 : decode cX8_isAsSeen 23 = .ok (.goto 48, 3) := by decide +kernel
theorem dX8_isAsSeen_26 : decode cX8_isAsSeen 26 = .ok (.aload_n 1, 1) := by decide +kernel
theorem dX8_isAsSeen_27 : decode cX8_isAsSeen 27 = .ok (.iload_n 2, 1) := by decide +kernel
theorem dX8_isAsSeen_28 : decode cX8_isAsSeen 28 = .ok (.iload_n 3, 1) := by decide +kernel
theorem dX8_isAsSeen_29 : decode cX8_isAsSeen 29 = .ok (.aload_n 1, 1) := by decide +kernel
theorem dX8_isAsSeen_30 : decode cX8_isAsSeen 30 = .ok (.getfield 28, 3) := by decide +kernel
theorem dX8_isAsSeen_33 : decode cX8_isAsSeen 33 = .ok (.iload_n 2, 1) := by decide +kernel
theorem dX8_isAsSeen_34 : decode cX8_isAsSeen 34 = .ok (.iaload, 1) := by decide +kernel
theorem dX8_isAsSeen_35 : decode cX8_isAsSeen 35 = .ok (.aload_n 1, 1) := by decide +kernel
theorem dX8_isAsSeen_36 : decode cX8_isAsSeen 36 = .ok (.getfield 31, 3) := by decide +kernel
theorem dX8_isAsSeen_39 : decode cX8_isAsSeen 39 = .ok (.iload 4, 2) := by decide +kernel
theorem dX8_isAsSeen_41 : decode cX8_isAsSeen 41 = .ok (.iaload, 1) := by decide +kernel
theorem dX8_isAsSeen_42 : decode cX8_isAsSeen 42 = .ok (.invokevirtual 34, 3) := by decide +kernel
theorem dX8_isAsSeen_45 : decode cX8_isAsSeen 45 = .ok (.istore 5, 2) := by decide +kernel
theorem dX8_isAsSeen_47 : decode cX8_isAsSeen 47 = .ok (.iload 5, 2) := by decide +kernel
theorem dX8_isAsSeen_49 : decode cX8_isAsSeen 49 = .ok (.aload_n 1, 1) := by decide +kernel
theorem dX8_isAsSeen_50 : decode cX8_isAsSeen 50 = .ok (.getfield 38, 3) := by decide +kernel
theorem dX8_isAsSeen_53 : decode cX8_isAsSeen 53 = .ok (.iload 4, 2) := by decide +kernel
theorem dX8_isAsSeen_55 : decode cX8_isAsSeen 55 = .ok (.iaload, 1) := by decide +kernel
theorem dX8_isAsSeen_56 : decode cX8_isAsSeen 56 = .ok (.ishr, 1) := by decide +kernel
theorem dX8_isAsSeen_57 : decode cX8_isAsSeen 57 = .ok (.iconst 1, 1) := by decide +kernel
theorem dX8_isAsSeen_58 : decode cX8_isAsSeen 58 = .ok (.iand, 1) := by decide +kernel
theorem dX8_isAsSeen_59 : decode cX8_isAsSeen 59 = .ok (.aload_n 1, 1) := by decide +kernel
theorem dX8_isAsSeen_60 : decode cX8_isAsSeen 60 = .ok (.getfield 41, 3) := by decide +kernel
theorem dX8_isAsSeen_63 : decode cX8_isAsSeen 63 = .ok (.iload 4, 2) := by decide +kernel
theorem dX8_isAsSeen_65 : decode cX8_isAsSeen 65 = .ok (.iaload, 1) := by decide +kernel
theorem dX8_isAsSeen_66 : decode cX8_isAsSeen 66 = .ok (.if_icmp .eq 5, 3) := by decide +kernel
theorem dX8_isAsSeen_69 : decode cX8_isAsSeen 69 = .ok (.iconst 0, 1) := by decide +kernel
theorem dX8_isAsSeen_70 : decode cX8_isAsSeen 70 = .ok (.ireturn, 1) := by decide +kernel
theorem dX8_isAsSeen_71 : decode cX8_isAsSeen 71 = .ok (.iinc 4 1, 3) := by decide +kernel
theorem dX8_isAsSeen_74 : decode cX8_isAsSeen 74 = .ok (.goto (-71), 3) := by decide +kernel
theorem dX8_isAsSeen_77 : decode cX8_isAsSeen 77 = .ok (.iconst 1, 1) := by decide +kernel
theorem dX8_isAsSeen_78 : decode cX8_isAsSeen 78 = .ok (.ireturn, 1) := by decide +kernel
theorem dX8_look_0 : decode cX8_look 0 = .ok (.aload_n 0, 1) := by decide +kernel
theorem dX8_look_1 : decode cX8_look 1 = .ok (.aload_n 1, 1) := by decide +kernel
theorem dX8_look_2 : decode cX8_look 2 = .ok (.iload_n 2, 1) := by decide +kernel
theorem dX8_look_3 : decode cX8_look 3 = .ok (.invokevirtual 44, 3) := by decide +kernel
theorem dX8_look_6 : decode cX8_look 6 = .ok (.istore_n 3, 1) := by decide +kernel
theorem dX8_look_7 : decode cX8_look 7 = .ok (.iload_n 3, 1) := by decide +kernel
theorem dX8_look_8 : decode cX8_look 8 = .ok (.ifCond .ne 5, 3) := by decide +kernel
theorem dX8_look_11 : decode cX8_look 11 = .ok (.iconst (-1), 1) := by decide +kernel
theorem dX8_look_12 : decode cX8_look 12 = .ok (.ireturn, 1) := by decide +kernel
theorem dX8_look_13 : decode cX8_look 13 = .ok (.iconst (-1), 1) := by decide +kernel
theorem dX8_look_14 : decode cX8_look 14 = .ok (.istore 4, 2) := by decide +kernel
theorem dX8_look_16 : decode cX8_look 16 = .ok (.bipush 10, 2) := by decide +kernel
theorem dX8_look_18 : decode cX8_look 18 = .ok (.istore 5, 2) := by decide +kernel
theorem dX8_look_20 : decode cX8_look 20 = .ok (.iconst 0, 1) := by decide +kernel
theorem dX8_look_21 : decode cX8_look 21 = .ok (.istore 6, 2) := by decide +kernel
theorem dX8_look_23 : decode cX8_look 23 = .ok (.iload 6, 2) := by decide +kernel
theorem dX8_look_25 : decode cX8_look 25 = .ok (.bipush 13, 2) := by decide +kernel
theorem dX8_look_27 : decode cX8_look 27 = .ok (.if_icmp .ge 93, 3) := by decide +kernel
theorem dX8_look_30 : decode cX8_look 30 = .ok (.iconst 1, 1) := by decide +kernel
theorem dX8_look_31 : decode cX8_look 31 = .ok (.istore 7, 2) := by decide +kernel
theorem dX8_look_33 : decode cX8_look 33 = .ok (.iload 7, 2) := by decide +kernel
theorem dX8_look_35 : decode cX8_look 35 = .ok (.bipush 9, 2) := by decide +kernel
theorem dX8_look_37 : decode cX8_look 37 = .ok (.if_icmp .gt 31, 3) := by decide +kernel
theorem dX8_look_40 : decode cX8_look 40 = .ok (.aload_n 0, 1) := by decide +kernel
theorem dX8_look_41 : decode cX8_look 41 = .ok (.getfield 9, 3) := by decide +kernel
theorem dX8_look_44 : decode cX8_look 44 = .ok (.iload 7, 2) := by decide +kernel
theorem dX8_look_46 : decode cX8_look 46 = .ok (.aload_n 1, 1) := by decide +kernel
theorem dX8_look_47 : decode cX8_look 47 = .ok (.iload_n 2, 1) := by decide +kernel
theorem dX8_look_48 : decode cX8_look 48 = .ok (.iload 7, 2) := by decide +kernel
theorem dX8_look_50 : decode cX8_look 50 = .ok (.aload_n 1, 1) := by decide +kernel
theorem dX8_look_51 : decode cX8_look 51 = .ok (.getfield 28, 3) := by decide +kernel
theorem dX8_look_54 : decode cX8_look 54 = .ok (.iload_n 2, 1) := by decide +kernel
theorem dX8_look_55 : decode cX8_look 55 = .ok (.iaload, 1) := by decide +kernel
theorem dX8_look_56 : decode cX8_look 56 = .ok (.iload 6, 2) := by decide +kernel
theorem dX8_look_58 : decode cX8_look 58 = .ok (.invokevirtual 34, 3) := by decide +kernel
theorem dX8_look_61 : decode cX8_look 61 = .ok (.iastore, 1) := by decide +kernel
theorem dX8_look_62 : decode cX8_look 62 = .ok (.iinc 7 1, 3) := by decide +kernel
theorem dX8_look_65 : decode cX8_look 65 = .ok (.goto (-32), 3) := by decide +kernel
theorem dX8_look_68 : decode cX8_look 68 = .ok (.iconst 0, 1) := by decide +kernel
theorem dX8_look_69 : decode cX8_look 69 = .ok (.istore 7, 2) := by decide +kernel
theorem dX8_look_71 : decode cX8_look 71 = .ok (.iload 7, 2) := by decide +kernel
theorem dX8_look_73 : decode cX8_look 73 = .ok (.bipush 10, 2) := by decide +kernel
theorem dX8_look_75 : decode cX8_look 75 = .ok (.if_icmp .ge 39, 3) := by decide +kernel
theorem dX8_look_78 : decode cX8_look 78 = .ok (.aload_n 0, 1) := by decide +kernel
theorem dX8_look_79 : decode cX8_look 79 = .ok (.iload_n 3, 1) := by decide +kernel
theorem dX8_look_80 : decode cX8_look 80 = .ok (.iload 7, 2) := by decide +kernel
theorem dX8_look_82 : decode cX8_look 82 = .ok (.invokevirtual 48, 3) := by decide +kernel
theorem dX8_look_85 : decode cX8_look 85 = .ok (.istore 8, 2) := by decide +kernel
theorem dX8_look_87 : decode cX8_look 87 = .ok (.iload 8, 2) := by decide +kernel
theorem dX8_look_89 : decode cX8_look 89 = .ok (.iload 5, 2) := by decide +kernel
theorem dX8_look_91 : decode cX8_look 91 = .ok (.if_icmp .ge 17, 3) := by decide +kernel
theorem dX8_look_94 : decode cX8_look 94 = .ok (.iload 8, 2) := by decide +kernel
theorem dX8_look_96 : decode cX8_look 96 = .ok (.istore 5, 2) := by decide +kernel
theorem dX8_look_98 : decode cX8_look 98 = .ok (.iload 6, 2) := by decide +kernel
theorem dX8_look_100 : decode cX8_look 100 = .ok (.bipush 10, 2) := by decide +kernel
theorem dX8_look_102 : decode cX8_look 102 = .ok (.imul, 1) := by decide +kernel
theorem dX8_look_103 : decode cX8_look 103 = .ok (.iload 7, 2) := by decide +kernel
theorem dX8_look_105 : decode cX8_look 105 = .ok (.iadd, 1) := by decide +kernel
theorem dX8_look_106 : decode cX8_look 106 = .ok (.istore 4, 2) := by decide +kernel
theorem dX8_look_108 : decode cX8_look 108 = .ok (.iinc 7 1, 3) := by decide +kernel
theorem dX8_look_111 : decode cX8_look 111 = .ok (.goto (-40), 3) := by decide +kernel
theorem dX8_look_114 : decode cX8_look 114 = .ok (.iinc 6 1, 3) := by decide +kernel
theorem dX8_look_117 : decode cX8_look 117 = .ok (.goto (-94), 3) := by decide +kernel
theorem dX8_look_120 : decode cX8_look 120 = .ok (.iload 4, 2) := by decide +kernel
theorem dX8_look_122 : decode cX8_look 122 = .ok (.ireturn, 1) := by decide +kernel
theorem dX8_leftAtWorst_0 : decode cX8_leftAtWorst 0 = .ok (.iconst 0, 1) := by decide +kernel
theorem dX8_leftAtWorst_1 : decode cX8_leftAtWorst 1 = .ok (.istore_n 3, 1) := by decide +kernel
theorem dX8_leftAtWorst_2 : decode cX8_leftAtWorst 2 = .ok (.iconst 1, 1) := by decide +kernel
theorem dX8_leftAtWorst_3 : decode cX8_leftAtWorst 3 = .ok (.istore 4, 2) := by decide +kernel
theorem dX8_leftAtWorst_5 : decode cX8_leftAtWorst 5 = .ok (.iload 4, 2) := by decide +kernel
theorem dX8_leftAtWorst_7 : decode cX8_leftAtWorst 7 = .ok (.bipush 9, 2) := by decide +kernel
theorem dX8_leftAtWorst_9 : decode cX8_leftAtWorst 9 = .ok (.if_icmp .gt 30, 3) := by decide +kernel
theorem dX8_leftAtWorst_12 : decode cX8_leftAtWorst 12 = .ok (.iload_n 3, 1) := by decide +kernel
theorem dX8_leftAtWorst_13 : decode cX8_leftAtWorst 13 = .ok (.iload_n 1, 1) := by decide +kernel
theorem dX8_leftAtWorst_14 : decode cX8_leftAtWorst 14 = .ok (.iload 4, 2) := by decide +kernel
theorem dX8_leftAtWorst_16 : decode cX8_leftAtWorst 16 = .ok (.iconst 1, 1) := by decide +kernel
theorem dX8_leftAtWorst_17 : decode cX8_leftAtWorst 17 = .ok (.isub, 1) := by decide +kernel
theorem dX8_leftAtWorst_18 : decode cX8_leftAtWorst 18 = .ok (.ishr, 1) := by decide +kernel
theorem dX8_leftAtWorst_19 : decode cX8_leftAtWorst 19 = .ok (.aload_n 0, 1) := by decide +kernel
theorem dX8_leftAtWorst_20 : decode cX8_leftAtWorst 20 = .ok (.getfield 9, 3) := by decide +kernel
theorem dX8_leftAtWorst_23 : decode cX8_leftAtWorst 23 = .ok (.iload 4, 2) := by decide +kernel
theorem dX8_leftAtWorst_25 : decode cX8_leftAtWorst 25 = .ok (.iaload, 1) := by decide +kernel
theorem dX8_leftAtWorst_26 : decode cX8_leftAtWorst 26 = .ok (.iload_n 2, 1) := by decide +kernel
theorem dX8_leftAtWorst_27 : decode cX8_leftAtWorst 27 = .ok (.ishr, 1) := by decide +kernel
theorem dX8_leftAtWorst_28 : decode cX8_leftAtWorst 28 = .ok (.iand, 1) := by decide +kernel
theorem dX8_leftAtWorst_29 : decode cX8_leftAtWorst 29 = .ok (.iconst 1, 1) := by decide +kernel
theorem dX8_leftAtWorst_30 : decode cX8_leftAtWorst 30 = .ok (.iand, 1) := by decide +kernel
theorem dX8_leftAtWorst_31 : decode cX8_leftAtWorst 31 = .ok (.iadd, 1) := by decide +kernel
theorem dX8_leftAtWorst_32 : decode cX8_leftAtWorst 32 = .ok (.istore_n 3, 1) := by decide +kernel
theorem dX8_leftAtWorst_33 : decode cX8_leftAtWorst 33 = .ok (.iinc 4 1, 3) := by decide +kernel
theorem dX8_leftAtWorst_36 : decode cX8_leftAtWorst 36 = .ok (.goto (-31), 3) := by decide +kernel
theorem dX8_leftAtWorst_39 : decode cX8_leftAtWorst 39 = .ok (.iload_n 3, 1) := by decide +kernel
theorem dX8_leftAtWorst_40 : decode cX8_leftAtWorst 40 = .ok (.iload_n 1, 1) := by decide +kernel
theorem dX8_leftAtWorst_41 : decode cX8_leftAtWorst 41 = .ok (.invokestatic 52, 3) := by decide +kernel
theorem dX8_leftAtWorst_44 : decode cX8_leftAtWorst 44 = .ok (.iload_n 3, 1) := by decide +kernel
theorem dX8_leftAtWorst_45 : decode cX8_leftAtWorst 45 = .ok (.isub, 1) := by decide +kernel
theorem dX8_leftAtWorst_46 : decode cX8_leftAtWorst 46 = .ok (.invokestatic 58, 3) := by decide +kernel
theorem dX8_leftAtWorst_49 : decode cX8_leftAtWorst 49 = .ok (.ireturn, 1) := by decide +kernel
theorem dX9_init_0 : decode cX9_init 0 = .ok (.aload_n 0, 1) := by decide +kernel
theorem dX9_init_1 : decode cX9_init 1 = .ok (.invokespecial 3, 3) := by decide +kernel
theorem dX9_init_4 : decode cX9_init 4 = .ok (.return_, 1) := by decide +kernel
theorem dX9_hold_0 : decode cX9_hold 0 = .ok (.aload_n 0, 1) := by decide +kernel
theorem dX9_hold_1 : decode cX9_hold 1 = .ok (.iload_n 3, 1) := by decide +kernel
theorem dX9_hold_2 : decode cX9_hold 2 = .ok (.i2l, 1) := by decide +kernel
theorem dX9_hold_3 : decode cX9_hold 3 = .ok (.putfield 9, 3) := by decide +kernel
theorem dX9_hold_6 : decode cX9_hold 6 = .ok (.aload_n 0, 1) := by decide +kernel
theorem dX9_hold_7 : decode cX9_hold 7 = .ok (.iconst 0, 1) := by decide +kernel
theorem dX9_hold_8 : decode cX9_hold 8 = .ok (.putfield 15, 3) := by decide +kernel
theorem dX9_hold_11 : decode cX9_hold 11 = .ok (.aload_n 0, 1) := by decide +kernel
theorem dX9_hold_12 : decode cX9_hold 12 = .ok (.iconst 0, 1) := by decide +kernel
theorem dX9_hold_13 : decode cX9_hold 13 = .ok (.putfield 19, 3) := by decide +kernel
theorem dX9_hold_16 : decode cX9_hold 16 = .ok (.iconst 0, 1) := by decide +kernel
theorem dX9_hold_17 : decode cX9_hold 17 = .ok (.istore 4, 2) := by decide +kernel
theorem dX9_hold_19 : decode cX9_hold 19 = .ok (.iload 4, 2) := by decide +kernel
theorem dX9_hold_21 : decode cX9_hold 21 = .ok (.iload_n 2, 1) := by decide +kernel
theorem dX9_hold_22 : decode cX9_hold 22 = .ok (.if_icmp .ge 89, 3) := by decide +kernel
theorem dX9_hold_25 : decode cX9_hold 25 = .ok (.aload_n 0, 1) := by decide +kernel
theorem dX9_hold_26 : decode cX9_hold 26 = .ok (.aload_n 1, 1) := by decide +kernel
theorem dX9_hold_27 : decode cX9_hold 27 = .ok (.getfield 22, 3) := by decide +kernel
theorem dX9_hold_30 : decode cX9_hold 30 = .ok (.invokevirtual 27, 3) := by decide +kernel
theorem dX9_hold_33 : decode cX9_hold 33 = .ok (.istore 5, 2) := by decide +kernel
theorem dX9_hold_35 : decode cX9_hold 35 = .ok (.aload_n 0, 1) := by decide +kernel
theorem dX9_hold_36 : decode cX9_hold 36 = .ok (.aload_n 1, 1) := by decide +kernel
theorem dX9_hold_37 : decode cX9_hold 37 = .ok (.getfield 22, 3) := by decide +kernel
theorem dX9_hold_40 : decode cX9_hold 40 = .ok (.invokevirtual 27, 3) := by decide +kernel
theorem dX9_hold_43 : decode cX9_hold 43 = .ok (.istore 6, 2) := by decide +kernel
theorem dX9_hold_45 : decode cX9_hold 45 = .ok (.aload_n 0, 1) := by decide +kernel
theorem dX9_hold_46 : decode cX9_hold 46 = .ok (.bipush 13, 2) := by decide +kernel
theorem dX9_hold_48 : decode cX9_hold 48 = .ok (.invokevirtual 27, 3) := by decide +kernel
theorem dX9_hold_51 : decode cX9_hold 51 = .ok (.istore 7, 2) := by decide +kernel
theorem dX9_hold_53 : decode cX9_hold 53 = .ok (.iload 5, 2) := by decide +kernel
theorem dX9_hold_55 : decode cX9_hold 55 = .ok (.iload 6, 2) := by decide +kernel
theorem dX9_hold_57 : decode cX9_hold 57 = .ok (.if_icmp .ne 6, 3) := by decide +kernel
theorem dX9_hold_60 : decode cX9_hold 60 = .ok (.goto 45, 3) := by decide +kernel
theorem dX9_hold_63 : decode cX9_hold 63 = .ok (.aload_n 1, 1) := by decide +kernel
theorem dX9_hold_64 : decode cX9_hold 64 = .ok (.iload 5, 2) := by decide +kernel
theorem dX9_hold_66 : decode cX9_hold 66 = .ok (.iload 6, 2) := by decide +kernel
theorem dX9_hold_68 : decode cX9_hold 68 = .ok (.iload 7, 2) := by decide +kernel
theorem dX9_hold_70 : decode cX9_hold 70 = .ok (.invokevirtual 31, 3) := by decide +kernel
theorem dX9_hold_73 : decode cX9_hold 73 = .ok (.istore 8, 2) := by decide +kernel
theorem dX9_hold_75 : decode cX9_hold 75 = .ok (.iload 8, 2) := by decide +kernel
theorem dX9_hold_77 : decode cX9_hold 77 = .ok (.ifCond .le 13, 3) := by decide +kernel
theorem dX9_hold_80 : decode cX9_hold 80 = .ok (.aload_n 0, 1) := by decide +kernel
theorem dX9_hold_81 : decode cX9_hold 81 = .ok (.dup, 1) := by decide +kernel
theorem dX9_hold_82 : decode cX9_hold 82 = .ok (.getfield 15, 3) := by decide +kernel
theorem dX9_hold_85 : decode cX9_hold 85 = .ok (.iconst 1, 1) := by decide +kernel
theorem dX9_hold_86 : decode cX9_hold 86 = .ok (.iadd, 1) := by decide +kernel
theorem dX9_hold_87 : decode cX9_hold 87 = .ok (.putfield 15, 3) := by decide +kernel
theorem dX9_hold_90 : decode cX9_hold 90 = .ok (.iload 8, 2) := by decide +kernel
theorem dX9_hold_92 : decode cX9_hold 92 = .ok (.ifCond .ne 13, 3) := by decide +kernel
theorem dX9_hold_95 : decode cX9_hold 95 = .ok (.aload_n 0, 1) := by decide +kernel
theorem dX9_hold_96 : decode cX9_hold 96 = .ok (.dup, 1) := by decide +kernel
theorem dX9_hold_97 : decode cX9_hold 97 = .ok (.getfield 19, 3) := by decide +kernel
theorem dX9_hold_100 : decode cX9_hold 100 = .ok (.iconst 1, 1) := by decide +kernel
theorem dX9_hold_101 : decode cX9_hold 101 = .ok (.iadd, 1) := by decide +kernel
theorem dX9_hold_102 : decode cX9_hold 102 = .ok (.putfield 19, 3) := by decide +kernel
theorem dX9_hold_105 : decode cX9_hold 105 = .ok (.iinc 4 1, 3) := by decide +kernel
theorem dX9_hold_108 : decode cX9_hold 108 = .ok (.goto (-89), 3) := by decide +kernel
theorem dX9_hold_111 : decode cX9_hold 111 = .ok (.return_, 1) := by decide +kernel
theorem dX9_draw_0 : decode cX9_draw 0 = .ok (.aload_n 0, 1) := by decide +kernel
theorem dX9_draw_1 : decode cX9_draw 1 = .ok (.aload_n 0, 1) := by decide +kernel
theorem dX9_draw_2 : decode cX9_draw 2 = .ok (.getfield 9, 3) := by decide +kernel
theorem dX9_draw_5 : decode cX9_draw 5 = .ok (.ldc2_w 35, 3) := by decide +kernel
theorem dX9_draw_8 : decode cX9_draw 8 = .ok (.lmul, 1) := by decide +kernel
theorem dX9_draw_9 : decode cX9_draw 9 = .ok (.ldc2_w 37, 3) := by decide +kernel
theorem dX9_draw_12 : decode cX9_draw 12 = .ok (.ladd, 1) := by decide +kernel
theorem dX9_draw_13 : decode cX9_draw 13 = .ok (.ldc2_w 39, 3) := by decide +kernel
theorem dX9_draw_16 : decode cX9_draw 16 = .ok (.lrem, 1) := by decide +kernel
theorem dX9_draw_17 : decode cX9_draw 17 = .ok (.putfield 9, 3) := by decide +kernel
theorem dX9_draw_20 : decode cX9_draw 20 = .ok (.iload_n 1, 1) := by decide +kernel
theorem dX9_draw_21 : decode cX9_draw 21 = .ok (.iconst 1, 1) := by decide +kernel
theorem dX9_draw_22 : decode cX9_draw 22 = .ok (.if_icmp .ge 7, 3) := by decide +kernel
theorem dX9_draw_25 : decode cX9_draw 25 = .ok (.iconst 0, 1) := by decide +kernel
theorem dX9_draw_26 : decode cX9_draw 26 = .ok (.goto 15, 3) := by decide +kernel
theorem dX9_draw_29 : decode cX9_draw 29 = .ok (.aload_n 0, 1) := by decide +kernel
theorem dX9_draw_30 : decode cX9_draw 30 = .ok (.getfield 9, 3) := by decide +kernel
theorem dX9_draw_33 : decode cX9_draw 33 = .ok (.ldc2_w 41, 3) := by decide +kernel
theorem dX9_draw_36 : decode cX9_draw 36 = .ok (.ldiv, 1) := by decide +kernel
theorem dX9_draw_37 : decode cX9_draw 37 = .ok (.iload_n 1, 1) := by decide +kernel
theorem dX9_draw_38 : decode cX9_draw 38 = .ok (.i2l, 1) := by decide +kernel
theorem dX9_draw_39 : decode cX9_draw 39 = .ok (.lrem, 1) := by decide +kernel
theorem dX9_draw_40 : decode cX9_draw 40 = .ok (.l2i, 1) := by decide +kernel
theorem dX9_draw_41 : decode cX9_draw 41 = .ok (.ireturn, 1) := by decide +kernel
theorem dX10_init_0 : decode cX10_init 0 = .ok (.aload_n 0, 1) := by decide +kernel
theorem dX10_init_1 : decode cX10_init 1 = .ok (.iconst 2, 1) := by decide +kernel
theorem dX10_init_2 : decode cX10_init 2 = .ok (.iconst 0, 1) := by decide +kernel
theorem dX10_init_3 : decode cX10_init 3 = .ok (.invokespecial 3, 3) := by decide +kernel
theorem dX10_init_6 : decode cX10_init 6 = .ok (.return_, 1) := by decide +kernel
theorem dX10_shade_0 : decode cX10_shade 0 = .ok (.aload_n 0, 1) := by decide +kernel
theorem dX10_shade_1 : decode cX10_shade 1 = .ok (.iload_n 1, 1) := by decide +kernel
theorem dX10_shade_2 : decode cX10_shade 2 = .ok (.iload_n 3, 1) := by decide +kernel
theorem dX10_shade_3 : decode cX10_shade 3 = .ok (.invokevirtual 9, 3) := by decide +kernel
theorem dX10_shade_6 : decode cX10_shade 6 = .ok (.istore 4, 2) := by decide +kernel
theorem dX10_shade_8 : decode cX10_shade 8 = .ok (.iload_n 3, 1) := by decide +kernel
theorem dX10_shade_9 : decode cX10_shade 9 = .ok (.bipush 6, 2) := by decide +kernel
theorem dX10_shade_11 : decode cX10_shade 11 = .ok (.if_icmp .ge 10, 3) := by decide +kernel
theorem dX10_shade_14 : decode cX10_shade 14 = .ok (.iload_n 2, 1) := by decide +kernel
theorem dX10_shade_15 : decode cX10_shade 15 = .ok (.iload 4, 2) := by decide +kernel
theorem dX10_shade_17 : decode cX10_shade 17 = .ok (.isub, 1) := by decide +kernel
theorem dX10_shade_18 : decode cX10_shade 18 = .ok (.goto 7, 3) := by decide +kernel
theorem dX10_shade_21 : decode cX10_shade 21 = .ok (.iload_n 2, 1) := by decide +kernel
theorem dX10_shade_22 : decode cX10_shade 22 = .ok (.iload 4, 2) := by decide +kernel
theorem dX10_shade_24 : decode cX10_shade 24 = .ok (.iadd, 1) := by decide +kernel
theorem dX10_shade_25 : decode cX10_shade 25 = .ok (.istore 5, 2) := by decide +kernel
theorem dX10_shade_27 : decode cX10_shade 27 = .ok (.iload 4, 2) := by decide +kernel
theorem dX10_shade_29 : decode cX10_shade 29 = .ok (.ifCond .le 18, 3) := by decide +kernel
theorem dX10_shade_32 : decode cX10_shade 32 = .ok (.iload 5, 2) := by decide +kernel
theorem dX10_shade_34 : decode cX10_shade 34 = .ok (.invokestatic 15, 3) := by decide +kernel
theorem dX10_shade_37 : decode cX10_shade 37 = .ok (.ifCond .eq 10, 3) := by decide +kernel
theorem dX10_shade_40 : decode cX10_shade 40 = .ok (.iconst 1, 1) := by decide +kernel
theorem dX10_shade_41 : decode cX10_shade 41 = .ok (.iload 5, 2) := by decide +kernel
theorem dX10_shade_43 : decode cX10_shade 43 = .ok (.ishl, 1) := by decide +kernel
theorem dX10_shade_44 : decode cX10_shade 44 = .ok (.goto 4, 3) := by decide +kernel
theorem dX10_shade_47 : decode cX10_shade 47 = .ok (.iconst 0, 1) := by decide +kernel
theorem dX10_shade_48 : decode cX10_shade 48 = .ok (.ireturn, 1) := by decide +kernel
theorem dX11_init_0 : decode cX11_init 0 = .ok (.aload_n 0, 1) := by decide +kernel
theorem dX11_init_1 : decode cX11_init 1 = .ok (.invokespecial 1, 3) := by decide +kernel
theorem dX11_init_4 : decode cX11_init 4 = .ok (.aload_n 0, 1) := by decide +kernel
theorem dX11_init_5 : decode cX11_init 5 = .ok (.new 7, 3) := by decide +kernel
theorem dX11_init_8 : decode cX11_init 8 = .ok (.dup, 1) := by decide +kernel
theorem dX11_init_9 : decode cX11_init 9 = .ok (.invokespecial 9, 3) := by decide +kernel
theorem dX11_init_12 : decode cX11_init 12 = .ok (.putfield 10, 3) := by decide +kernel
theorem dX11_init_15 : decode cX11_init 15 = .ok (.aload_n 0, 1) := by decide +kernel
theorem dX11_init_16 : decode cX11_init 16 = .ok (.new 16, 3) := by decide +kernel
theorem dX11_init_19 : decode cX11_init 19 = .ok (.dup, 1) := by decide +kernel
theorem dX11_init_20 : decode cX11_init 20 = .ok (.invokespecial 18, 3) := by decide +kernel
theorem dX11_init_23 : decode cX11_init 23 = .ok (.putfield 19, 3) := by decide +kernel
theorem dX11_init_26 : decode cX11_init 26 = .ok (.aload_n 0, 1) := by decide +kernel
theorem dX11_init_27 : decode cX11_init 27 = .ok (.new 16, 3) := by decide +kernel
theorem dX11_init_30 : decode cX11_init 30 = .ok (.dup, 1) := by decide +kernel
theorem dX11_init_31 : decode cX11_init 31 = .ok (.invokespecial 18, 3) := by decide +kernel
theorem dX11_init_34 : decode cX11_init 34 = .ok (.putfield 23, 3) := by decide +kernel
theorem dX11_init_37 : decode cX11_init 37 = .ok (.aload_n 0, 1) := by decide +kernel
theorem dX11_init_38 : decode cX11_init 38 = .ok (.new 26, 3) := by decide +kernel
theorem dX11_init_41 : decode cX11_init 41 = .ok (.dup, 1) := by decide +kernel
theorem dX11_init_42 : decode cX11_init 42 = .ok (.invokespecial 28, 3) := by decide +kernel
theorem dX11_init_45 : decode cX11_init 45 = .ok (.putfield 29, 3) := by decide +kernel
theorem dX11_init_48 : decode cX11_init 48 = .ok (.aload_n 0, 1) := by decide +kernel
theorem dX11_init_49 : decode cX11_init 49 = .ok (.new 33, 3) := by decide +kernel
theorem dX11_init_52 : decode cX11_init 52 = .ok (.dup, 1) := by decide +kernel
theorem dX11_init_53 : decode cX11_init 53 = .ok (.invokespecial 35, 3) := by decide +kernel
theorem dX11_init_56 : decode cX11_init 56 = .ok (.putfield 36, 3) := by decide +kernel
theorem dX11_init_59 : decode cX11_init 59 = .ok (.aload_n 0, 1) := by decide +kernel
theorem dX11_init_60 : decode cX11_init 60 = .ok (.new 40, 3) := by decide +kernel
theorem dX11_init_63 : decode cX11_init 63 = .ok (.dup, 1) := by decide +kernel
theorem dX11_init_64 : decode cX11_init 64 = .ok (.invokespecial 42, 3) := by decide +kernel
theorem dX11_init_67 : decode cX11_init 67 = .ok (.putfield 43, 3) := by decide +kernel
theorem dX11_init_70 : decode cX11_init 70 = .ok (.aload_n 0, 1) := by decide +kernel
theorem dX11_init_71 : decode cX11_init 71 = .ok (.new 47, 3) := by decide +kernel
theorem dX11_init_74 : decode cX11_init 74 = .ok (.dup, 1) := by decide +kernel
theorem dX11_init_75 : decode cX11_init 75 = .ok (.invokespecial 49, 3) := by decide +kernel
theorem dX11_init_78 : decode cX11_init 78 = .ok (.putfield 50, 3) := by decide +kernel
theorem dX11_init_81 : decode cX11_init 81 = .ok (.return_, 1) := by decide +kernel
theorem dX11_letter_0 : decode cX11_letter 0 = .ok (.iload_n 1, 1) := by decide +kernel
theorem dX11_letter_1 : decode cX11_letter 1 = .ok (.bipush 32, 2) := by decide +kernel
theorem dX11_letter_3 : decode cX11_letter 3 = .ok (.bipush 126, 2) := by decide +kernel
theorem dX11_letter_5 : decode cX11_letter 5 = .ok (.invokestatic 54, 3) := by decide +kernel
theorem dX11_letter_8 : decode cX11_letter 8 = .ok (.ifCond .ne 6, 3) := by decide +kernel
theorem dX11_letter_11 : decode cX11_letter 11 = .ok (.bipush (-102), 2) := by decide +kernel
theorem dX11_letter_13 : decode cX11_letter 13 = .ok (.ireturn, 1) := by decide +kernel
theorem dX11_letter_14 : decode cX11_letter 14 = .ok (.aload_n 0, 1) := by decide +kernel
theorem dX11_letter_15 : decode cX11_letter 15 = .ok (.getfield 10, 3) := by decide +kernel
theorem dX11_letter_18 : decode cX11_letter 18 = .ok (.getfield 58, 3) := by decide +kernel
theorem dX11_letter_21 : decode cX11_letter 21 = .ok (.bipush 34, 2) := by decide +kernel
theorem dX11_letter_23 : decode cX11_letter 23 = .ok (.if_icmp .lt 6, 3) := by decide +kernel
theorem dX11_letter_26 : decode cX11_letter 26 = .ok (.bipush (-104), 2) := by decide +kernel
theorem dX11_letter_28 : decode cX11_letter 28 = .ok (.ireturn, 1) := by decide +kernel
theorem dX11_letter_29 : decode cX11_letter 29 = .ok (.aload_n 0, 1) := by decide +kernel
theorem dX11_letter_30 : decode cX11_letter 30 = .ok (.getfield 10, 3) := by decide +kernel
theorem dX11_letter_33 : decode cX11_letter 33 = .ok (.getfield 62, 3) := by decide +kernel
theorem dX11_letter_36 : decode cX11_letter 36 = .ok (.aload_n 0, 1) := by decide +kernel
theorem dX11_letter_37 : decode cX11_letter 37 = .ok (.getfield 10, 3) := by decide +kernel
theorem dX11_letter_40 : decode cX11_letter 40 = .ok (.getfield 58, 3) := by decide +kernel
theorem dX11_letter_43 : decode cX11_letter 43 = .ok (.iload_n 1, 1) := by decide +kernel
theorem dX11_letter_44 : decode cX11_letter 44 = .ok (.i2c, 1) := by decide +kernel
theorem dX11_letter_45 : decode cX11_letter 45 = .ok (.castore, 1) := by decide +kernel
theorem dX11_letter_46 : decode cX11_letter 46 = .ok (.aload_n 0, 1) := by decide +kernel
theorem dX11_letter_47 : decode cX11_letter 47 = .ok (.getfield 10, 3) := by decide +kernel
theorem dX11_letter_50 : decode cX11_letter 50 = .ok (.dup, 1) := by decide +kernel
theorem dX11_letter_51 : decode cX11_letter 51 = .ok (.getfield 58, 3) := by decide +kernel
theorem dX11_letter_54 : decode cX11_letter 54 = .ok (.iconst 1, 1) := by decide +kernel
theorem dX11_letter_55 : decode cX11_letter 55 = .ok (.iadd, 1) := by decide +kernel
theorem dX11_letter_56 : decode cX11_letter 56 = .ok (.putfield 58, 3) := by decide +kernel
theorem dX11_letter_59 : decode cX11_letter 59 = .ok (.aload_n 0, 1) := by decide +kernel
theorem dX11_letter_60 : decode cX11_letter 60 = .ok (.getfield 10, 3) := by decide +kernel
theorem dX11_letter_63 : decode cX11_letter 63 = .ok (.getfield 58, 3) := by decide +kernel
theorem dX11_letter_66 : decode cX11_letter 66 = .ok (.ireturn, 1) := by decide +kernel
theorem dX11_blank_0 : decode cX11_blank 0 = .ok (.aload_n 0, 1) := by decide +kernel
theorem dX11_blank_1 : decode cX11_blank 1 = .ok (.getfield 10, 3) := by decide +kernel
theorem dX11_blank_4 : decode cX11_blank 4 = .ok (.getfield 58, 3) := by decide +kernel
theorem dX11_blank_7 : decode cX11_blank 7 = .ok (.istore_n 1, 1) := by decide +kernel
theorem dX11_blank_8 : decode cX11_blank 8 = .ok (.aload_n 0, 1) := by decide +kernel
theorem dX11_blank_9 : decode cX11_blank 9 = .ok (.getfield 10, 3) := by decide +kernel
theorem dX11_blank_12 : decode cX11_blank 12 = .ok (.iconst 0, 1) := by decide +kernel
theorem dX11_blank_13 : decode cX11_blank 13 = .ok (.putfield 58, 3) := by decide +kernel
theorem dX11_blank_16 : decode cX11_blank 16 = .ok (.iload_n 1, 1) := by decide +kernel
theorem dX11_blank_17 : decode cX11_blank 17 = .ok (.ireturn, 1) := by decide +kernel
theorem dX11_fault_0 : decode cX11_fault 0 = .ok (.aload_n 0, 1) := by decide +kernel
theorem dX11_fault_1 : decode cX11_fault 1 = .ok (.getfield 10, 3) := by decide +kernel
theorem dX11_fault_4 : decode cX11_fault 4 = .ok (.invokevirtual 66, 3) := by decide +kernel
theorem dX11_fault_7 : decode cX11_fault 7 = .ok (.ireturn, 1) := by decide +kernel
theorem dX11_court_0 : decode cX11_court 0 = .ok (.aload_n 0, 1) := by decide +kernel
theorem dX11_court_1 : decode cX11_court 1 = .ok (.getfield 10, 3) := by decide +kernel
theorem dX11_court_4 : decode cX11_court 4 = .ok (.invokevirtual 70, 3) := by decide +kernel
theorem dX11_court_7 : decode cX11_court 7 = .ok (.ifCond .ne 6, 3) := by decide +kernel
theorem dX11_court_10 : decode cX11_court 10 = .ok (.bipush (-103), 2) := by decide +kernel
theorem dX11_court_12 : decode cX11_court 12 = .ok (.ireturn, 1) := by decide +kernel
theorem dX11_court_13 : decode cX11_court 13 = .ok (.aload_n 0, 1) := by decide +kernel
theorem dX11_court_14 : decode cX11_court 14 = .ok (.getfield 19, 3) := by decide +kernel
theorem dX11_court_17 : decode cX11_court 17 = .ok (.aload_n 0, 1) := by decide +kernel
theorem dX11_court_18 : decode cX11_court 18 = .ok (.getfield 10, 3) := by decide +kernel
theorem dX11_court_21 : decode cX11_court 21 = .ok (.invokevirtual 74, 3) := by decide +kernel
theorem dX11_court_24 : decode cX11_court 24 = .ok (.aload_n 0, 1) := by decide +kernel
theorem dX11_court_25 : decode cX11_court 25 = .ok (.getfield 10, 3) := by decide +kernel
theorem dX11_court_28 : decode cX11_court 28 = .ok (.iconst 0, 1) := by decide +kernel
theorem dX11_court_29 : decode cX11_court 29 = .ok (.putfield 58, 3) := by decide +kernel
theorem dX11_court_32 : decode cX11_court 32 = .ok (.aload_n 0, 1) := by decide +kernel
theorem dX11_court_33 : decode cX11_court 33 = .ok (.iconst 0, 1) := by decide +kernel
theorem dX11_court_34 : decode cX11_court 34 = .ok (.putfield 78, 3) := by decide +kernel
theorem dX11_court_37 : decode cX11_court 37 = .ok (.aload_n 0, 1) := by decide +kernel
theorem dX11_court_38 : decode cX11_court 38 = .ok (.dup, 1) := by decide +kernel
theorem dX11_court_39 : decode cX11_court 39 = .ok (.getfield 82, 3) := by decide +kernel
theorem dX11_court_42 : decode cX11_court 42 = .ok (.iconst 1, 1) := by decide +kernel
theorem dX11_court_43 : decode cX11_court 43 = .ok (.iadd, 1) := by decide +kernel
theorem dX11_court_44 : decode cX11_court 44 = .ok (.putfield 82, 3) := by decide +kernel
theorem dX11_court_47 : decode cX11_court 47 = .ok (.aload_n 0, 1) := by decide +kernel
theorem dX11_court_48 : decode cX11_court 48 = .ok (.getfield 19, 3) := by decide +kernel
theorem dX11_court_51 : decode cX11_court 51 = .ok (.getfield 85, 3) := by decide +kernel
theorem dX11_court_54 : decode cX11_court 54 = .ok (.ireturn, 1) := by decide +kernel
theorem dX11_party_0 : decode cX11_party 0 = .ok (.aload_n 0, 1) := by decide +kernel
theorem dX11_party_1 : decode cX11_party 1 = .ok (.getfield 19, 3) := by decide +kernel
theorem dX11_party_4 : decode cX11_party 4 = .ok (.iload_n 1, 1) := by decide +kernel
theorem dX11_party_5 : decode cX11_party 5 = .ok (.invokevirtual 88, 3) := by decide +kernel
theorem dX11_party_8 : decode cX11_party 8 = .ok (.ifCond .ne 6, 3) := by decide +kernel
theorem dX11_party_11 : decode cX11_party 11 = .ok (.bipush (-101), 2) := by decide +kernel
theorem dX11_party_13 : decode cX11_party 13 = .ok (.ireturn, 1) := by decide +kernel
theorem dX11_party_14 : decode cX11_party 14 = .ok (.iload_n 2, 1) := by decide +kernel
theorem dX11_party_15 : decode cX11_party 15 = .ok (.tableswitch 139 0 6 #[41, 54, 64, 74, 90, 113, 126], 41) := by decide +kernel
theorem dX11_party_56 : decode cX11_party 56 = .ok (.aload_n 0, 1) := by decide +kernel
theorem dX11_party_57 : decode cX11_party 57 = .ok (.getfield 19, 3) := by decide +kernel
theorem dX11_party_60 : decode cX11_party 60 = .ok (.getfield 92, 3) := by decide +kernel
theorem dX11_party_63 : decode cX11_party 63 = .ok (.iload_n 1, 1) := by decide +kernel
theorem dX11_party_64 : decode cX11_party 64 = .ok (.aaload, 1) := by decide +kernel
theorem dX11_party_65 : decode cX11_party 65 = .ok (.getfield 96, 3) := by decide +kernel
theorem dX11_party_68 : decode cX11_party 68 = .ok (.ireturn, 1) := by decide +kernel
theorem dX11_party_69 : decode cX11_party 69 = .ok (.aload_n 0, 1) := by decide +kernel
theorem dX11_party_70 : decode cX11_party 70 = .ok (.getfield 19, 3) := by decide +kernel
theorem dX11_party_73 : decode cX11_party 73 = .ok (.getfield 101, 3) := by decide +kernel
theorem dX11_party_76 : decode cX11_party 76 = .ok (.iload_n 1, 1) := by decide +kernel
theorem dX11_party_77 : decode cX11_party 77 = .ok (.iaload, 1) := by decide +kernel
theorem dX11_party_78 : decode cX11_party 78 = .ok (.ireturn, 1) := by decide +kernel
theorem dX11_party_79 : decode cX11_party 79 = .ok (.aload_n 0, 1) := by decide +kernel
theorem dX11_party_80 : decode cX11_party 80 = .ok (.getfield 19, 3) := by decide +kernel
theorem dX11_party_83 : decode cX11_party 83 = .ok (.getfield 105, 3) := by decide +kernel
theorem dX11_party_86 : decode cX11_party 86 = .ok (.iload_n 1, 1) := by decide +kernel
theorem dX11_party_87 : decode cX11_party 87 = .ok (.iaload, 1) := by decide +kernel
theorem dX11_party_88 : decode cX11_party 88 = .ok (.ireturn, 1) := by decide +kernel
theorem dX11_party_89 : decode cX11_party 89 = .ok (.aload_n 0, 1) := by decide +kernel
theorem dX11_party_90 : decode cX11_party 90 = .ok (.getfield 19, 3) := by decide +kernel
theorem dX11_party_93 : decode cX11_party 93 = .ok (.iload_n 1, 1) := by decide +kernel
theorem dX11_party_94 : decode cX11_party 94 = .ok (.aload_n 0, 1) := by decide +kernel
theorem dX11_party_95 : decode cX11_party 95 = .ok (.getfield 19, 3) := by decide +kernel
theorem dX11_party_98 : decode cX11_party 98 = .ok (.getfield 108, 3) := by decide +kernel
theorem dX11_party_101 : decode cX11_party 101 = .ok (.invokevirtual 111, 3) := by decide +kernel
theorem dX11_party_104 : decode cX11_party 104 = .ok (.ireturn, 1) := by decide +kernel
theorem dX11_party_105 : decode cX11_party 105 = .ok (.aload_n 0, 1) := by decide +kernel
theorem dX11_party_106 : decode cX11_party 106 = .ok (.getfield 19, 3) := by decide +kernel
theorem dX11_party_109 : decode cX11_party 109 = .ok (.aload_n 0, 1) := by decide +kernel
theorem dX11_party_110 : decode cX11_party 110 = .ok (.getfield 19, 3) := by decide +kernel
theorem dX11_party_113 : decode cX11_party 113 = .ok (.iload_n 1, 1) := by decide +kernel
theorem dX11_party_114 : decode cX11_party 114 = .ok (.aload_n 0, 1) := by decide +kernel
theorem dX11_party_115 : decode cX11_party 115 = .ok (.getfield 19, 3) := by decide +kernel
theorem dX11_party_118 : decode cX11_party 118 = .ok (.getfield 108, 3) := by decide +kernel
theorem dX11_party_121 : decode cX11_party 121 = .ok (.invokevirtual 111, 3) := by decide +kernel
theorem dX11_party_124 : decode cX11_party 124 = .ok (.invokevirtual 115, 3) := by decide +kernel
theorem dX11_party_127 : decode cX11_party 127 = .ok (.ireturn, 1) := by decide +kernel
theorem dX11_party_128 : decode cX11_party 128 = .ok (.aload_n 0, 1) := by decide +kernel
theorem dX11_party_129 : decode cX11_party 129 = .ok (.getfield 29, 3) := by decide +kernel
theorem dX11_party_132 : decode cX11_party 132 = .ok (.aload_n 0, 1) := by decide +kernel
theorem dX11_party_133 : decode cX11_party 133 = .ok (.getfield 19, 3) := by decide +kernel
theorem dX11_party_136 : decode cX11_party 136 = .ok (.iload_n 1, 1) := by decide +kernel
theorem dX11_party_137 : decode cX11_party 137 = .ok (.invokevirtual 119, 3) := by decide +kernel
theorem dX11_party_140 : decode cX11_party 140 = .ok (.ireturn, 1) := by decide +kernel
theorem dX11_party_141 : decode cX11_party 141 = .ok (.aload_n 0, 1) := by decide +kernel
theorem dX11_party_142 : decode cX11_party 142 = .ok (.getfield 29, 3) := by decide +kernel
theorem dX11_party_145 : decode cX11_party 145 = .ok (.aload_n 0, 1) := by decide +kernel
theorem dX11_party_146 : decode cX11_party 146 = .ok (.getfield 19, 3) := by decide +kernel
theorem dX11_party_149 : decode cX11_party 149 = .ok (.iload_n 1, 1) := by decide +kernel
theorem dX11_party_150 : decode cX11_party 150 = .ok (.invokevirtual 123, 3) := by decide +kernel
theorem dX11_party_153 : decode cX11_party 153 = .ok (.ireturn, 1) := by decide +kernel
theorem dX11_party_154 : decode cX11_party 154 = .ok (.bipush (-102), 2) := by decide +kernel
theorem dX11_party_156 : decode cX11_party 156 = .ok (.ireturn, 1) := by decide +kernel
theorem dX11_as_0 : decode cX11_as 0 = .ok (.aload_n 0, 1) := by decide +kernel
theorem dX11_as_1 : decode cX11_as 1 = .ok (.getfield 19, 3) := by decide +kernel
theorem dX11_as_4 : decode cX11_as 4 = .ok (.iload_n 1, 1) := by decide +kernel
theorem dX11_as_5 : decode cX11_as 5 = .ok (.invokevirtual 88, 3) := by decide +kernel
theorem dX11_as_8 : decode cX11_as 8 = .ok (.ifCond .ne 6, 3) := by decide +kernel
theorem dX11_as_11 : decode cX11_as 11 = .ok (.bipush (-101), 2) := by decide +kernel
theorem dX11_as_13 : decode cX11_as 13 = .ok (.ireturn, 1) := by decide +kernel
theorem dX11_as_14 : decode cX11_as 14 = .ok (.iload_n 2, 1) := by decide +kernel
theorem dX11_as_15 : decode cX11_as 15 = .ok (.tableswitch 119 0 4 #[33, 35, 56, 77, 98], 33) := by decide +kernel
theorem dX11_as_48 : decode cX11_as 48 = .ok (.iload_n 1, 1) := by decide +kernel
theorem dX11_as_49 : decode cX11_as 49 = .ok (.ireturn, 1) := by decide +kernel
theorem dX11_as_50 : decode cX11_as 50 = .ok (.aload_n 0, 1) := by decide +kernel
theorem dX11_as_51 : decode cX11_as 51 = .ok (.getfield 19, 3) := by decide +kernel
theorem dX11_as_54 : decode cX11_as 54 = .ok (.getfield 92, 3) := by decide +kernel
theorem dX11_as_57 : decode cX11_as 57 = .ok (.iload_n 1, 1) := by decide +kernel
theorem dX11_as_58 : decode cX11_as 58 = .ok (.aaload, 1) := by decide +kernel
theorem dX11_as_59 : decode cX11_as 59 = .ok (.instanceof 126, 3) := by decide +kernel
theorem dX11_as_62 : decode cX11_as 62 = .ok (.ifCond .eq 7, 3) := by decide +kernel
theorem dX11_as_65 : decode cX11_as 65 = .ok (.iload_n 1, 1) := by decide +kernel
theorem dX11_as_66 : decode cX11_as 66 = .ok (.goto 4, 3) := by decide +kernel
theorem dX11_as_69 : decode cX11_as 69 = .ok (.iconst (-1), 1) := by decide +kernel
theorem dX11_as_70 : decode cX11_as 70 = .ok (.ireturn, 1) := by decide +kernel
theorem dX11_as_71 : decode cX11_as 71 = .ok (.aload_n 0, 1) := by decide +kernel
theorem dX11_as_72 : decode cX11_as 72 = .ok (.getfield 19, 3) := by decide +kernel
theorem dX11_as_75 : decode cX11_as 75 = .ok (.getfield 92, 3) := by decide +kernel
theorem dX11_as_78 : decode cX11_as 78 = .ok (.iload_n 1, 1) := by decide +kernel
theorem dX11_as_79 : decode cX11_as 79 = .ok (.aaload, 1) := by decide +kernel
theorem dX11_as_80 : decode cX11_as 80 = .ok (.instanceof 128, 3) := by decide +kernel
theorem dX11_as_83 : decode cX11_as 83 = .ok (.ifCond .eq 7, 3) := by decide +kernel
theorem dX11_as_86 : decode cX11_as 86 = .ok (.iload_n 1, 1) := by decide +kernel
theorem dX11_as_87 : decode cX11_as 87 = .ok (.goto 4, 3) := by decide +kernel
theorem dX11_as_90 : decode cX11_as 90 = .ok (.iconst (-1), 1) := by decide +kernel
theorem dX11_as_91 : decode cX11_as 91 = .ok (.ireturn, 1) := by decide +kernel
theorem dX11_as_92 : decode cX11_as 92 = .ok (.aload_n 0, 1) := by decide +kernel
theorem dX11_as_93 : decode cX11_as 93 = .ok (.getfield 19, 3) := by decide +kernel
theorem dX11_as_96 : decode cX11_as 96 = .ok (.getfield 92, 3) := by decide +kernel
theorem dX11_as_99 : decode cX11_as 99 = .ok (.iload_n 1, 1) := by decide +kernel
theorem dX11_as_100 : decode cX11_as 100 = .ok (.aaload, 1) := by decide +kernel
theorem dX11_as_101 : decode cX11_as 101 = .ok (.instanceof 130, 3) := by decide +kernel
theorem dX11_as_104 : decode cX11_as 104 = .ok (.ifCond .eq 7, 3) := by decide +kernel
theorem dX11_as_107 : decode cX11_as 107 = .ok (.iload_n 1, 1) := by decide +kernel
theorem dX11_as_108 : decode cX11_as 108 = .ok (.goto 4, 3) := by decide +kernel
theorem dX11_as_111 : decode cX11_as 111 = .ok (.iconst (-1), 1) := by decide +kernel
theorem dX11_as_112 : decode cX11_as 112 = .ok (.ireturn, 1) := by decide +kernel
theorem dX11_as_113 : decode cX11_as 113 = .ok (.aload_n 0, 1) := by decide +kernel
theorem dX11_as_114 : decode cX11_as 114 = .ok (.getfield 19, 3) := by decide +kernel
theorem dX11_as_117 : decode cX11_as 117 = .ok (.getfield 92, 3) := by decide +kernel
theorem dX11_as_120 : decode cX11_as 120 = .ok (.iload_n 1, 1) := by decide +kernel
theorem dX11_as_121 : decode cX11_as 121 = .ok (.aaload, 1) := by decide +kernel
theorem dX11_as_122 : decode cX11_as 122 = .ok (.instanceof 132, 3) := by decide +kernel
theorem dX11_as_125 : decode cX11_as 125 = .ok (.ifCond .eq 7, 3) := by decide +kernel
theorem dX11_as_128 : decode cX11_as 128 = .ok (.iload_n 1, 1) := by decide +kernel
theorem dX11_as_129 : decode cX11_as 129 = .ok (.goto 4, 3) := by decide +kernel
theorem dX11_as_132 : decode cX11_as 132 = .ok (.iconst (-1), 1) := by decide +kernel
theorem dX11_as_133 : decode cX11_as 133 = .ok (.ireturn, 1) := by decide +kernel
theorem dX11_as_134 : decode cX11_as 134 = .ok (.bipush (-102), 2) := by decide +kernel
theorem dX11_as_136 : decode cX11_as 136 = .ok (.ireturn, 1) := by decide +kernel
theorem dX11_covers_0 : decode cX11_covers 0 = .ok (.aload_n 0, 1) := by decide +kernel
theorem dX11_covers_1 : decode cX11_covers 1 = .ok (.getfield 19, 3) := by decide +kernel
theorem dX11_covers_4 : decode cX11_covers 4 = .ok (.iload_n 1, 1) := by decide +kernel
theorem dX11_covers_5 : decode cX11_covers 5 = .ok (.invokevirtual 88, 3) := by decide +kernel
theorem dX11_covers_8 : decode cX11_covers 8 = .ok (.ifCond .ne 6, 3) := by decide +kernel
theorem dX11_covers_11 : decode cX11_covers 11 = .ok (.bipush (-101), 2) := by decide +kernel
theorem dX11_covers_13 : decode cX11_covers 13 = .ok (.ireturn, 1) := by decide +kernel
theorem dX11_covers_14 : decode cX11_covers 14 = .ok (.iload_n 2, 1) := by decide +kernel
theorem dX11_covers_15 : decode cX11_covers 15 = .ok (.invokestatic 134, 3) := by decide +kernel
theorem dX11_covers_18 : decode cX11_covers 18 = .ok (.ifCond .ne 6, 3) := by decide +kernel
theorem dX11_covers_21 : decode cX11_covers 21 = .ok (.bipush (-102), 2) := by decide +kernel
theorem dX11_covers_23 : decode cX11_covers 23 = .ok (.ireturn, 1) := by decide +kernel
theorem dX11_covers_24 : decode cX11_covers 24 = .ok (.aload_n 0, 1) := by decide +kernel
theorem dX11_covers_25 : decode cX11_covers 25 = .ok (.getfield 19, 3) := by decide +kernel
theorem dX11_covers_28 : decode cX11_covers 28 = .ok (.iload_n 1, 1) := by decide +kernel
theorem dX11_covers_29 : decode cX11_covers 29 = .ok (.iload_n 2, 1) := by decide +kernel
theorem dX11_covers_30 : decode cX11_covers 30 = .ok (.invokevirtual 111, 3) := by decide +kernel
theorem dX11_covers_33 : decode cX11_covers 33 = .ok (.ireturn, 1) := by decide +kernel
theorem dX11_tile_0 : decode cX11_tile 0 = .ok (.aload_n 0, 1) := by decide +kernel
theorem dX11_tile_1 : decode cX11_tile 1 = .ok (.getfield 19, 3) := by decide +kernel
theorem dX11_tile_4 : decode cX11_tile 4 = .ok (.iload_n 1, 1) := by decide +kernel
theorem dX11_tile_5 : decode cX11_tile 5 = .ok (.invokevirtual 137, 3) := by decide +kernel
theorem dX11_tile_8 : decode cX11_tile 8 = .ok (.ifCond .ne 6, 3) := by decide +kernel
theorem dX11_tile_11 : decode cX11_tile 11 = .ok (.bipush (-101), 2) := by decide +kernel
theorem dX11_tile_13 : decode cX11_tile 13 = .ok (.ireturn, 1) := by decide +kernel
theorem dX11_tile_14 : decode cX11_tile 14 = .ok (.iload_n 2, 1) := by decide +kernel
theorem dX11_tile_15 : decode cX11_tile 15 = .ok (.tableswitch 53 0 2 #[25, 35, 44], 25) := by decide +kernel
theorem dX11_tile_40 : decode cX11_tile 40 = .ok (.aload_n 0, 1) := by decide +kernel
theorem dX11_tile_41 : decode cX11_tile 41 = .ok (.getfield 19, 3) := by decide +kernel
theorem dX11_tile_44 : decode cX11_tile 44 = .ok (.getfield 140, 3) := by decide +kernel
theorem dX11_tile_47 : decode cX11_tile 47 = .ok (.iload_n 1, 1) := by decide +kernel
theorem dX11_tile_48 : decode cX11_tile 48 = .ok (.iaload, 1) := by decide +kernel
theorem dX11_tile_49 : decode cX11_tile 49 = .ok (.ireturn, 1) := by decide +kernel
theorem dX11_tile_50 : decode cX11_tile 50 = .ok (.aload_n 0, 1) := by decide +kernel
theorem dX11_tile_51 : decode cX11_tile 51 = .ok (.getfield 19, 3) := by decide +kernel
theorem dX11_tile_54 : decode cX11_tile 54 = .ok (.iload_n 1, 1) := by decide +kernel
theorem dX11_tile_55 : decode cX11_tile 55 = .ok (.invokevirtual 143, 3) := by decide +kernel
theorem dX11_tile_58 : decode cX11_tile 58 = .ok (.ireturn, 1) := by decide +kernel
theorem dX11_tile_59 : decode cX11_tile 59 = .ok (.aload_n 0, 1) := by decide +kernel
theorem dX11_tile_60 : decode cX11_tile 60 = .ok (.getfield 19, 3) := by decide +kernel
theorem dX11_tile_63 : decode cX11_tile 63 = .ok (.iload_n 1, 1) := by decide +kernel
theorem dX11_tile_64 : decode cX11_tile 64 = .ok (.invokevirtual 146, 3) := by decide +kernel
theorem dX11_tile_67 : decode cX11_tile 67 = .ok (.ireturn, 1) := by decide +kernel
theorem dX11_tile_68 : decode cX11_tile 68 = .ok (.bipush (-102), 2) := by decide +kernel
theorem dX11_tile_70 : decode cX11_tile 70 = .ok (.ireturn, 1) := by decide +kernel
theorem dX11_found_0 : decode cX11_found 0 = .ok (.aload_n 0, 1) := by decide +kernel
theorem dX11_found_1 : decode cX11_found 1 = .ok (.getfield 19, 3) := by decide +kernel
theorem dX11_found_4 : decode cX11_found 4 = .ok (.iload_n 1, 1) := by decide +kernel
theorem dX11_found_5 : decode cX11_found 5 = .ok (.iload_n 2, 1) := by decide +kernel
theorem dX11_found_6 : decode cX11_found 6 = .ok (.invokevirtual 149, 3) := by decide +kernel
theorem dX11_found_9 : decode cX11_found 9 = .ok (.ifCond .ne 6, 3) := by decide +kernel
theorem dX11_found_12 : decode cX11_found 12 = .ok (.bipush (-101), 2) := by decide +kernel
theorem dX11_found_14 : decode cX11_found 14 = .ok (.ireturn, 1) := by decide +kernel
theorem dX11_found_15 : decode cX11_found 15 = .ok (.iload_n 3, 1) := by decide +kernel
theorem dX11_found_16 : decode cX11_found 16 = .ok (.invokestatic 134, 3) := by decide +kernel
theorem dX11_found_19 : decode cX11_found 19 = .ok (.ifCond .ne 6, 3) := by decide +kernel
theorem dX11_found_22 : decode cX11_found 22 = .ok (.bipush (-102), 2) := by decide +kernel
theorem dX11_found_24 : decode cX11_found 24 = .ok (.ireturn, 1) := by decide +kernel
theorem dX11_found_25 : decode cX11_found 25 = .ok (.aload_n 0, 1) := by decide +kernel
theorem dX11_found_26 : decode cX11_found 26 = .ok (.getfield 19, 3) := by decide +kernel
theorem dX11_found_29 : decode cX11_found 29 = .ok (.iload_n 1, 1) := by decide +kernel
theorem dX11_found_30 : decode cX11_found 30 = .ok (.iload_n 2, 1) := by decide +kernel
theorem dX11_found_31 : decode cX11_found 31 = .ok (.iload_n 3, 1) := by decide +kernel
theorem dX11_found_32 : decode cX11_found 32 = .ok (.invokevirtual 153, 3) := by decide +kernel
theorem dX11_found_35 : decode cX11_found 35 = .ok (.bipush 100, 2) := by decide +kernel
theorem dX11_found_37 : decode cX11_found 37 = .ok (.iadd, 1) := by decide +kernel
theorem dX11_found_38 : decode cX11_found 38 = .ok (.ireturn, 1) := by decide +kernel
theorem dX11_tick_0 : decode cX11_tick 0 = .ok (.aload_n 0, 1) := by decide +kernel
theorem dX11_tick_1 : decode cX11_tick 1 = .ok (.getfield 19, 3) := by decide +kernel
theorem dX11_tick_4 : decode cX11_tick 4 = .ok (.invokevirtual 157, 3) := by decide +kernel
theorem dX11_tick_7 : decode cX11_tick 7 = .ok (.ifCond .eq 6, 3) := by decide +kernel
theorem dX11_tick_10 : decode cX11_tick 10 = .ok (.bipush (-103), 2) := by decide +kernel
theorem dX11_tick_12 : decode cX11_tick 12 = .ok (.ireturn, 1) := by decide +kernel
theorem dX11_tick_13 : decode cX11_tick 13 = .ok (.aload_n 0, 1) := by decide +kernel
theorem dX11_tick_14 : decode cX11_tick 14 = .ok (.getfield 19, 3) := by decide +kernel
theorem dX11_tick_17 : decode cX11_tick 17 = .ok (.getfield 108, 3) := by decide +kernel
theorem dX11_tick_20 : decode cX11_tick 20 = .ok (.bipush 12, 2) := by decide +kernel
theorem dX11_tick_22 : decode cX11_tick 22 = .ok (.if_icmp .ne 7, 3) := by decide +kernel
theorem dX11_tick_25 : decode cX11_tick 25 = .ok (.iconst 1, 1) := by decide +kernel
theorem dX11_tick_26 : decode cX11_tick 26 = .ok (.goto 4, 3) := by decide +kernel
theorem dX11_tick_29 : decode cX11_tick 29 = .ok (.iconst 0, 1) := by decide +kernel
theorem dX11_tick_30 : decode cX11_tick 30 = .ok (.istore_n 1, 1) := by decide +kernel
theorem dX11_tick_31 : decode cX11_tick 31 = .ok (.iload_n 1, 1) := by decide +kernel
theorem dX11_tick_32 : decode cX11_tick 32 = .ok (.ifCond .eq 20, 3) := by decide +kernel
theorem dX11_tick_35 : decode cX11_tick 35 = .ok (.aload_n 0, 1) := by decide +kernel
theorem dX11_tick_36 : decode cX11_tick 36 = .ok (.getfield 19, 3) := by decide +kernel
theorem dX11_tick_39 : decode cX11_tick 39 = .ok (.getfield 160, 3) := by decide +kernel
theorem dX11_tick_42 : decode cX11_tick 42 = .ok (.iconst 1, 1) := by decide +kernel
theorem dX11_tick_43 : decode cX11_tick 43 = .ok (.iadd, 1) := by decide +kernel
theorem dX11_tick_44 : decode cX11_tick 44 = .ok (.bipush 100, 2) := by decide +kernel
theorem dX11_tick_46 : decode cX11_tick 46 = .ok (.if_icmp .lt 6, 3) := by decide +kernel
theorem dX11_tick_49 : decode cX11_tick 49 = .ok (.bipush (-104), 2) := by decide +kernel
theorem dX11_tick_51 : decode cX11_tick 51 = .ok (.ireturn, 1) := by decide +kernel
theorem dX11_tick_52 : decode cX11_tick 52 = .ok (.iload_n 1, 1) := by decide +kernel
theorem dX11_tick_53 : decode cX11_tick 53 = .ok (.ifCond .eq 16, 3) := by decide +kernel
theorem dX11_tick_56 : decode cX11_tick 56 = .ok (.aload_n 0, 1) := by decide +kernel
theorem dX11_tick_57 : decode cX11_tick 57 = .ok (.getfield 19, 3) := by decide +kernel
theorem dX11_tick_60 : decode cX11_tick 60 = .ok (.dup, 1) := by decide +kernel
theorem dX11_tick_61 : decode cX11_tick 61 = .ok (.getfield 160, 3) := by decide +kernel
theorem dX11_tick_64 : decode cX11_tick 64 = .ok (.iconst 1, 1) := by decide +kernel
theorem dX11_tick_65 : decode cX11_tick 65 = .ok (.iadd, 1) := by decide +kernel
theorem dX11_tick_66 : decode cX11_tick 66 = .ok (.putfield 160, 3) := by decide +kernel
theorem dX11_tick_69 : decode cX11_tick 69 = .ok (.aload_n 0, 1) := by decide +kernel
theorem dX11_tick_70 : decode cX11_tick 70 = .ok (.getfield 19, 3) := by decide +kernel
theorem dX11_tick_73 : decode cX11_tick 73 = .ok (.iload_n 1, 1) := by decide +kernel
theorem dX11_tick_74 : decode cX11_tick 74 = .ok (.ifCond .eq 7, 3) := by decide +kernel
theorem dX11_tick_77 : decode cX11_tick 77 = .ok (.iconst 0, 1) := by decide +kernel
theorem dX11_tick_78 : decode cX11_tick 78 = .ok (.goto 12, 3) := by decide +kernel
theorem dX11_tick_81 : decode cX11_tick 81 = .ok (.aload_n 0, 1) := by decide +kernel
theorem dX11_tick_82 : decode cX11_tick 82 = .ok (.getfield 19, 3) := by decide +kernel
theorem dX11_tick_85 : decode cX11_tick 85 = .ok (.getfield 108, 3) := by decide +kernel
theorem dX11_tick_88 : decode cX11_tick 88 = .ok (.iconst 1, 1) := by decide +kernel
theorem dX11_tick_89 : decode cX11_tick 89 = .ok (.iadd, 1) := by decide +kernel
theorem dX11_tick_90 : decode cX11_tick 90 = .ok (.putfield 108, 3) := by decide +kernel
theorem dX11_tick_93 : decode cX11_tick 93 = .ok (.aload_n 0, 1) := by decide +kernel
theorem dX11_tick_94 : decode cX11_tick 94 = .ok (.getfield 19, 3) := by decide +kernel
theorem dX11_tick_97 : decode cX11_tick 97 = .ok (.getfield 108, 3) := by decide +kernel
theorem dX11_tick_100 : decode cX11_tick 100 = .ok (.ireturn, 1) := by decide +kernel
theorem dX11_step_0 : decode cX11_step 0 = .ok (.aload_n 0, 1) := by decide +kernel
theorem dX11_step_1 : decode cX11_step 1 = .ok (.getfield 19, 3) := by decide +kernel
theorem dX11_step_4 : decode cX11_step 4 = .ok (.iload_n 1, 1) := by decide +kernel
theorem dX11_step_5 : decode cX11_step 5 = .ok (.invokevirtual 88, 3) := by decide +kernel
theorem dX11_step_8 : decode cX11_step 8 = .ok (.ifCond .ne 6, 3) := by decide +kernel
theorem dX11_step_11 : decode cX11_step 11 = .ok (.bipush (-101), 2) := by decide +kernel
theorem dX11_step_13 : decode cX11_step 13 = .ok (.ireturn, 1) := by decide +kernel
theorem dX11_step_14 : decode cX11_step 14 = .ok (.iload_n 2, 1) := by decide +kernel
theorem dX11_step_15 : decode cX11_step 15 = .ok (.iconst (-1), 1) := by decide +kernel
theorem dX11_step_16 : decode cX11_step 16 = .ok (.if_icmp .eq 11, 3) := by decide +kernel
theorem dX11_step_19 : decode cX11_step 19 = .ok (.iload_n 2, 1) := by decide +kernel
theorem dX11_step_20 : decode cX11_step 20 = .ok (.iconst 1, 1) := by decide +kernel
theorem dX11_step_21 : decode cX11_step 21 = .ok (.if_icmp .eq 6, 3) := by decide +kernel
theorem dX11_step_24 : decode cX11_step 24 = .ok (.bipush (-102), 2) := by decide +kernel
theorem dX11_step_26 : decode cX11_step 26 = .ok (.ireturn, 1) := by decide +kernel
theorem dX11_step_27 : decode cX11_step 27 = .ok (.aload_n 0, 1) := by decide +kernel
theorem dX11_step_28 : decode cX11_step 28 = .ok (.getfield 19, 3) := by decide +kernel
theorem dX11_step_31 : decode cX11_step 31 = .ok (.getfield 105, 3) := by decide +kernel
theorem dX11_step_34 : decode cX11_step 34 = .ok (.iload_n 1, 1) := by decide +kernel
theorem dX11_step_35 : decode cX11_step 35 = .ok (.iaload, 1) := by decide +kernel
theorem dX11_step_36 : decode cX11_step 36 = .ok (.iload_n 2, 1) := by decide +kernel
theorem dX11_step_37 : decode cX11_step 37 = .ok (.iadd, 1) := by decide +kernel
theorem dX11_step_38 : decode cX11_step 38 = .ok (.istore_n 3, 1) := by decide +kernel
theorem dX11_step_39 : decode cX11_step 39 = .ok (.iload_n 3, 1) := by decide +kernel
theorem dX11_step_40 : decode cX11_step 40 = .ok (.invokestatic 163, 3) := by decide +kernel
theorem dX11_step_43 : decode cX11_step 43 = .ok (.ifCond .ne 6, 3) := by decide +kernel
theorem dX11_step_46 : decode cX11_step 46 = .ok (.bipush (-103), 2) := by decide +kernel
theorem dX11_step_48 : decode cX11_step 48 = .ok (.ireturn, 1) := by decide +kernel
theorem dX11_step_49 : decode cX11_step 49 = .ok (.aload_n 0, 1) := by decide +kernel
theorem dX11_step_50 : decode cX11_step 50 = .ok (.getfield 19, 3) := by decide +kernel
theorem dX11_step_53 : decode cX11_step 53 = .ok (.getfield 105, 3) := by decide +kernel
theorem dX11_step_56 : decode cX11_step 56 = .ok (.iload_n 1, 1) := by decide +kernel
theorem dX11_step_57 : decode cX11_step 57 = .ok (.iload_n 3, 1) := by decide +kernel
theorem dX11_step_58 : decode cX11_step 58 = .ok (.iastore, 1) := by decide +kernel
theorem dX11_step_59 : decode cX11_step 59 = .ok (.iload_n 3, 1) := by decide +kernel
theorem dX11_step_60 : decode cX11_step 60 = .ok (.ireturn, 1) := by decide +kernel
theorem dX11_stand_0 : decode cX11_stand 0 = .ok (.aload_n 0, 1) := by decide +kernel
theorem dX11_stand_1 : decode cX11_stand 1 = .ok (.getfield 19, 3) := by decide +kernel
theorem dX11_stand_4 : decode cX11_stand 4 = .ok (.iload_n 1, 1) := by decide +kernel
theorem dX11_stand_5 : decode cX11_stand 5 = .ok (.invokevirtual 88, 3) := by decide +kernel
theorem dX11_stand_8 : decode cX11_stand 8 = .ok (.ifCond .eq 10, 3) := by decide +kernel
theorem dX11_stand_11 : decode cX11_stand 11 = .ok (.iload_n 2, 1) := by decide +kernel
theorem dX11_stand_12 : decode cX11_stand 12 = .ok (.invokestatic 163, 3) := by decide +kernel
theorem dX11_stand_15 : decode cX11_stand 15 = .ok (.ifCond .ne 6, 3) := by decide +kernel
theorem dX11_stand_18 : decode cX11_stand 18 = .ok (.bipush (-101), 2) := by decide +kernel
theorem dX11_stand_20 : decode cX11_stand 20 = .ok (.ireturn, 1) := by decide +kernel
theorem dX11_stand_21 : decode cX11_stand 21 = .ok (.aload_n 0, 1) := by decide +kernel
theorem dX11_stand_22 : decode cX11_stand 22 = .ok (.getfield 19, 3) := by decide +kernel
theorem dX11_stand_25 : decode cX11_stand 25 = .ok (.getfield 105, 3) := by decide +kernel
theorem dX11_stand_28 : decode cX11_stand 28 = .ok (.iload_n 1, 1) := by decide +kernel
theorem dX11_stand_29 : decode cX11_stand 29 = .ok (.iaload, 1) := by decide +kernel
theorem dX11_stand_30 : decode cX11_stand 30 = .ok (.istore_n 3, 1) := by decide +kernel
theorem dX11_stand_31 : decode cX11_stand 31 = .ok (.aload_n 0, 1) := by decide +kernel
theorem dX11_stand_32 : decode cX11_stand 32 = .ok (.getfield 19, 3) := by decide +kernel
theorem dX11_stand_35 : decode cX11_stand 35 = .ok (.getfield 105, 3) := by decide +kernel
theorem dX11_stand_38 : decode cX11_stand 38 = .ok (.iload_n 1, 1) := by decide +kernel
theorem dX11_stand_39 : decode cX11_stand 39 = .ok (.iload_n 2, 1) := by decide +kernel
theorem dX11_stand_40 : decode cX11_stand 40 = .ok (.iastore, 1) := by decide +kernel
theorem dX11_stand_41 : decode cX11_stand 41 = .ok (.iload_n 3, 1) := by decide +kernel
theorem dX11_stand_42 : decode cX11_stand 42 = .ok (.ireturn, 1) := by decide +kernel
theorem dX11_rise_0 : decode cX11_rise 0 = .ok (.aload_n 0, 1) := by decide +kernel
theorem dX11_rise_1 : decode cX11_rise 1 = .ok (.getfield 19, 3) := by decide +kernel
theorem dX11_rise_4 : decode cX11_rise 4 = .ok (.iload_n 1, 1) := by decide +kernel
theorem dX11_rise_5 : decode cX11_rise 5 = .ok (.invokevirtual 88, 3) := by decide +kernel
theorem dX11_rise_8 : decode cX11_rise 8 = .ok (.ifCond .ne 6, 3) := by decide +kernel
theorem dX11_rise_11 : decode cX11_rise 11 = .ok (.bipush (-101), 2) := by decide +kernel
theorem dX11_rise_13 : decode cX11_rise 13 = .ok (.ireturn, 1) := by decide +kernel
theorem dX11_rise_14 : decode cX11_rise 14 = .ok (.iload_n 2, 1) := by decide +kernel
theorem dX11_rise_15 : decode cX11_rise 15 = .ok (.iconst 1, 1) := by decide +kernel
theorem dX11_rise_16 : decode cX11_rise 16 = .ok (.bipush 9, 2) := by decide +kernel
theorem dX11_rise_18 : decode cX11_rise 18 = .ok (.invokestatic 54, 3) := by decide +kernel
theorem dX11_rise_21 : decode cX11_rise 21 = .ok (.ifCond .ne 6, 3) := by decide +kernel
theorem dX11_rise_24 : decode cX11_rise 24 = .ok (.bipush (-102), 2) := by decide +kernel
theorem dX11_rise_26 : decode cX11_rise 26 = .ok (.ireturn, 1) := by decide +kernel
theorem dX11_rise_27 : decode cX11_rise 27 = .ok (.aload_n 0, 1) := by decide +kernel
theorem dX11_rise_28 : decode cX11_rise 28 = .ok (.getfield 19, 3) := by decide +kernel
theorem dX11_rise_31 : decode cX11_rise 31 = .ok (.getfield 101, 3) := by decide +kernel
theorem dX11_rise_34 : decode cX11_rise 34 = .ok (.iload_n 1, 1) := by decide +kernel
theorem dX11_rise_35 : decode cX11_rise 35 = .ok (.iaload, 1) := by decide +kernel
theorem dX11_rise_36 : decode cX11_rise 36 = .ok (.istore_n 3, 1) := by decide +kernel
theorem dX11_rise_37 : decode cX11_rise 37 = .ok (.aload_n 0, 1) := by decide +kernel
theorem dX11_rise_38 : decode cX11_rise 38 = .ok (.getfield 19, 3) := by decide +kernel
theorem dX11_rise_41 : decode cX11_rise 41 = .ok (.getfield 101, 3) := by decide +kernel
theorem dX11_rise_44 : decode cX11_rise 44 = .ok (.iload_n 1, 1) := by decide +kernel
theorem dX11_rise_45 : decode cX11_rise 45 = .ok (.iload_n 2, 1) := by decide +kernel
theorem dX11_rise_46 : decode cX11_rise 46 = .ok (.iastore, 1) := by decide +kernel
theorem dX11_rise_47 : decode cX11_rise 47 = .ok (.iload_n 3, 1) := by decide +kernel
theorem dX11_rise_48 : decode cX11_rise 48 = .ok (.ireturn, 1) := by decide +kernel
theorem dX11_lay_0 : decode cX11_lay 0 = .ok (.aload_n 0, 1) := by decide +kernel
theorem dX11_lay_1 : decode cX11_lay 1 = .ok (.getfield 19, 3) := by decide +kernel
theorem dX11_lay_4 : decode cX11_lay 4 = .ok (.iload_n 1, 1) := by decide +kernel
theorem dX11_lay_5 : decode cX11_lay 5 = .ok (.invokevirtual 137, 3) := by decide +kernel
theorem dX11_lay_8 : decode cX11_lay 8 = .ok (.ifCond .ne 6, 3) := by decide +kernel
theorem dX11_lay_11 : decode cX11_lay 11 = .ok (.bipush (-101), 2) := by decide +kernel
theorem dX11_lay_13 : decode cX11_lay 13 = .ok (.ireturn, 1) := by decide +kernel
theorem dX11_lay_14 : decode cX11_lay 14 = .ok (.iload_n 2, 1) := by decide +kernel
theorem dX11_lay_15 : decode cX11_lay 15 = .ok (.iconst 0, 1) := by decide +kernel
theorem dX11_lay_16 : decode cX11_lay 16 = .ok (.bipush 9, 2) := by decide +kernel
theorem dX11_lay_18 : decode cX11_lay 18 = .ok (.invokestatic 54, 3) := by decide +kernel
theorem dX11_lay_21 : decode cX11_lay 21 = .ok (.ifCond .ne 6, 3) := by decide +kernel
theorem dX11_lay_24 : decode cX11_lay 24 = .ok (.bipush (-102), 2) := by decide +kernel
theorem dX11_lay_26 : decode cX11_lay 26 = .ok (.ireturn, 1) := by decide +kernel
theorem dX11_lay_27 : decode cX11_lay 27 = .ok (.aload_n 0, 1) := by decide +kernel
theorem dX11_lay_28 : decode cX11_lay 28 = .ok (.getfield 19, 3) := by decide +kernel
theorem dX11_lay_31 : decode cX11_lay 31 = .ok (.getfield 140, 3) := by decide +kernel
theorem dX11_lay_34 : decode cX11_lay 34 = .ok (.iload_n 1, 1) := by decide +kernel
theorem dX11_lay_35 : decode cX11_lay 35 = .ok (.iaload, 1) := by decide +kernel
theorem dX11_lay_36 : decode cX11_lay 36 = .ok (.istore_n 3, 1) := by decide +kernel
theorem dX11_lay_37 : decode cX11_lay 37 = .ok (.aload_n 0, 1) := by decide +kernel
theorem dX11_lay_38 : decode cX11_lay 38 = .ok (.getfield 19, 3) := by decide +kernel
theorem dX11_lay_41 : decode cX11_lay 41 = .ok (.getfield 140, 3) := by decide +kernel
theorem dX11_lay_44 : decode cX11_lay 44 = .ok (.iload_n 1, 1) := by decide +kernel
theorem dX11_lay_45 : decode cX11_lay 45 = .ok (.iload_n 2, 1) := by decide +kernel
theorem dX11_lay_46 : decode cX11_lay 46 = .ok (.iastore, 1) := by decide +kernel
theorem dX11_lay_47 : decode cX11_lay 47 = .ok (.iload_n 3, 1) := by decide +kernel
theorem dX11_lay_48 : decode cX11_lay 48 = .ok (.ireturn, 1) := by decide +kernel
theorem dX11_file_0 : decode cX11_file 0 = .ok (.aload_n 0, 1) := by decide +kernel
theorem dX11_file_1 : decode cX11_file 1 = .ok (.getfield 19, 3) := by decide +kernel
theorem dX11_file_4 : decode cX11_file 4 = .ok (.iload_n 1, 1) := by decide +kernel
theorem dX11_file_5 : decode cX11_file 5 = .ok (.iload_n 2, 1) := by decide +kernel
theorem dX11_file_6 : decode cX11_file 6 = .ok (.invokevirtual 149, 3) := by decide +kernel
theorem dX11_file_9 : decode cX11_file 9 = .ok (.ifCond .ne 6, 3) := by decide +kernel
theorem dX11_file_12 : decode cX11_file 12 = .ok (.bipush (-101), 2) := by decide +kernel
theorem dX11_file_14 : decode cX11_file 14 = .ok (.ireturn, 1) := by decide +kernel
theorem dX11_file_15 : decode cX11_file 15 = .ok (.aload_n 0, 1) := by decide +kernel
theorem dX11_file_16 : decode cX11_file 16 = .ok (.getfield 19, 3) := by decide +kernel
theorem dX11_file_19 : decode cX11_file 19 = .ok (.getfield 166, 3) := by decide +kernel
theorem dX11_file_22 : decode cX11_file 22 = .ok (.iconst 5, 1) := by decide +kernel
theorem dX11_file_23 : decode cX11_file 23 = .ok (.if_icmp .lt 6, 3) := by decide +kernel
theorem dX11_file_26 : decode cX11_file 26 = .ok (.bipush (-104), 2) := by decide +kernel
theorem dX11_file_28 : decode cX11_file 28 = .ok (.ireturn, 1) := by decide +kernel
theorem dX11_file_29 : decode cX11_file 29 = .ok (.aload_n 0, 1) := by decide +kernel
theorem dX11_file_30 : decode cX11_file 30 = .ok (.getfield 19, 3) := by decide +kernel
theorem dX11_file_33 : decode cX11_file 33 = .ok (.getfield 169, 3) := by decide +kernel
theorem dX11_file_36 : decode cX11_file 36 = .ok (.aload_n 0, 1) := by decide +kernel
theorem dX11_file_37 : decode cX11_file 37 = .ok (.getfield 19, 3) := by decide +kernel
theorem dX11_file_40 : decode cX11_file 40 = .ok (.getfield 166, 3) := by decide +kernel
theorem dX11_file_43 : decode cX11_file 43 = .ok (.iload_n 1, 1) := by decide +kernel
theorem dX11_file_44 : decode cX11_file 44 = .ok (.iastore, 1) := by decide +kernel
theorem dX11_file_45 : decode cX11_file 45 = .ok (.aload_n 0, 1) := by decide +kernel
theorem dX11_file_46 : decode cX11_file 46 = .ok (.getfield 19, 3) := by decide +kernel
theorem dX11_file_49 : decode cX11_file 49 = .ok (.getfield 172, 3) := by decide +kernel
theorem dX11_file_52 : decode cX11_file 52 = .ok (.aload_n 0, 1) := by decide +kernel
theorem dX11_file_53 : decode cX11_file 53 = .ok (.getfield 19, 3) := by decide +kernel
theorem dX11_file_56 : decode cX11_file 56 = .ok (.getfield 166, 3) := by decide +kernel
theorem dX11_file_59 : decode cX11_file 59 = .ok (.iload_n 2, 1) := by decide +kernel
theorem dX11_file_60 : decode cX11_file 60 = .ok (.iastore, 1) := by decide +kernel
theorem dX11_file_61 : decode cX11_file 61 = .ok (.aload_n 0, 1) := by decide +kernel
theorem dX11_file_62 : decode cX11_file 62 = .ok (.getfield 19, 3) := by decide +kernel
theorem dX11_file_65 : decode cX11_file 65 = .ok (.dup, 1) := by decide +kernel
theorem dX11_file_66 : decode cX11_file 66 = .ok (.getfield 166, 3) := by decide +kernel
theorem dX11_file_69 : decode cX11_file 69 = .ok (.iconst 1, 1) := by decide +kernel
theorem dX11_file_70 : decode cX11_file 70 = .ok (.iadd, 1) := by decide +kernel
theorem dX11_file_71 : decode cX11_file 71 = .ok (.putfield 166, 3) := by decide +kernel
theorem dX11_file_74 : decode cX11_file 74 = .ok (.aload_n 0, 1) := by decide +kernel
theorem dX11_file_75 : decode cX11_file 75 = .ok (.getfield 19, 3) := by decide +kernel
theorem dX11_file_78 : decode cX11_file 78 = .ok (.getfield 166, 3) := by decide +kernel
theorem dX11_file_81 : decode cX11_file 81 = .ok (.ireturn, 1) := by decide +kernel
theorem dX11_settle_0 : decode cX11_settle 0 = .ok (.aload_n 0, 1) := by decide +kernel
theorem dX11_settle_1 : decode cX11_settle 1 = .ok (.getfield 19, 3) := by decide +kernel
theorem dX11_settle_4 : decode cX11_settle 4 = .ok (.getfield 166, 3) := by decide +kernel
theorem dX11_settle_7 : decode cX11_settle 7 = .ok (.istore_n 1, 1) := by decide +kernel
theorem dX11_settle_8 : decode cX11_settle 8 = .ok (.aload_n 0, 1) := by decide +kernel
theorem dX11_settle_9 : decode cX11_settle 9 = .ok (.getfield 19, 3) := by decide +kernel
theorem dX11_settle_12 : decode cX11_settle 12 = .ok (.iconst 0, 1) := by decide +kernel
theorem dX11_settle_13 : decode cX11_settle 13 = .ok (.putfield 166, 3) := by decide +kernel
theorem dX11_settle_16 : decode cX11_settle 16 = .ok (.iload_n 1, 1) := by decide +kernel
theorem dX11_settle_17 : decode cX11_settle 17 = .ok (.ireturn, 1) := by decide +kernel
theorem dX11_game_0 : decode cX11_game 0 = .ok (.aload_n 0, 1) := by decide +kernel
theorem dX11_game_1 : decode cX11_game 1 = .ok (.getfield 19, 3) := by decide +kernel
theorem dX11_game_4 : decode cX11_game 4 = .ok (.iload_n 1, 1) := by decide +kernel
theorem dX11_game_5 : decode cX11_game 5 = .ok (.iload_n 2, 1) := by decide +kernel
theorem dX11_game_6 : decode cX11_game 6 = .ok (.invokevirtual 149, 3) := by decide +kernel
theorem dX11_game_9 : decode cX11_game 9 = .ok (.ifCond .ne 6, 3) := by decide +kernel
theorem dX11_game_12 : decode cX11_game 12 = .ok (.bipush (-101), 2) := by decide +kernel
theorem dX11_game_14 : decode cX11_game 14 = .ok (.ireturn, 1) := by decide +kernel
theorem dX11_game_15 : decode cX11_game 15 = .ok (.iload_n 3, 1) := by decide +kernel
theorem dX11_game_16 : decode cX11_game 16 = .ok (.iconst 1, 1) := by decide +kernel
theorem dX11_game_17 : decode cX11_game 17 = .ok (.iconst 4, 1) := by decide +kernel
theorem dX11_game_18 : decode cX11_game 18 = .ok (.invokestatic 54, 3) := by decide +kernel
theorem dX11_game_21 : decode cX11_game 21 = .ok (.ifCond .eq 13, 3) := by decide +kernel
theorem dX11_game_24 : decode cX11_game 24 = .ok (.iload 4, 2) := by decide +kernel
theorem dX11_game_26 : decode cX11_game 26 = .ok (.iconst 0, 1) := by decide +kernel
theorem dX11_game_27 : decode cX11_game 27 = .ok (.iconst 1, 1) := by decide +kernel
theorem dX11_game_28 : decode cX11_game 28 = .ok (.invokestatic 54, 3) := by decide +kernel
theorem dX11_game_31 : decode cX11_game 31 = .ok (.ifCond .ne 6, 3) := by decide +kernel
theorem dX11_game_34 : decode cX11_game 34 = .ok (.bipush (-102), 2) := by decide +kernel
theorem dX11_game_36 : decode cX11_game 36 = .ok (.ireturn, 1) := by decide +kernel
theorem dX11_game_37 : decode cX11_game 37 = .ok (.aload_n 0, 1) := by decide +kernel
theorem dX11_game_38 : decode cX11_game 38 = .ok (.getfield 36, 3) := by decide +kernel
theorem dX11_game_41 : decode cX11_game 41 = .ok (.aload_n 0, 1) := by decide +kernel
theorem dX11_game_42 : decode cX11_game 42 = .ok (.getfield 19, 3) := by decide +kernel
theorem dX11_game_45 : decode cX11_game 45 = .ok (.iload_n 1, 1) := by decide +kernel
theorem dX11_game_46 : decode cX11_game 46 = .ok (.iload_n 2, 1) := by decide +kernel
theorem dX11_game_47 : decode cX11_game 47 = .ok (.iload_n 3, 1) := by decide +kernel
theorem dX11_game_48 : decode cX11_game 48 = .ok (.invokevirtual 175, 3) := by decide +kernel
theorem dX11_game_51 : decode cX11_game 51 = .ok (.iload 4, 2) := by decide +kernel
theorem dX11_game_53 : decode cX11_game 53 = .ok (.ifCond .ne 17, 3) := by decide +kernel
theorem dX11_game_56 : decode cX11_game 56 = .ok (.aload_n 0, 1) := by decide +kernel
theorem dX11_game_57 : decode cX11_game 57 = .ok (.getfield 36, 3) := by decide +kernel
theorem dX11_game_60 : decode cX11_game 60 = .ok (.getfield 179, 3) := by decide +kernel
theorem dX11_game_63 : decode cX11_game 63 = .ok (.sipush 500, 3) := by decide +kernel
theorem dX11_game_66 : decode cX11_game 66 = .ok (.iadd, 1) := by decide +kernel
theorem dX11_game_67 : decode cX11_game 67 = .ok (.goto 10, 3) := by decide +kernel
theorem dX11_game_70 : decode cX11_game 70 = .ok (.aload_n 0, 1) := by decide +kernel
theorem dX11_game_71 : decode cX11_game 71 = .ok (.getfield 36, 3) := by decide +kernel
theorem dX11_game_74 : decode cX11_game 74 = .ok (.getfield 182, 3) := by decide +kernel
theorem dX11_game_77 : decode cX11_game 77 = .ok (.ireturn, 1) := by decide +kernel
theorem dX11_docket_0 : decode cX11_docket 0 = .ok (.iload_n 1, 1) := by decide +kernel
theorem dX11_docket_1 : decode cX11_docket 1 = .ok (.bipush 10, 2) := by decide +kernel
theorem dX11_docket_3 : decode cX11_docket 3 = .ok (.bipush 14, 2) := by decide +kernel
theorem dX11_docket_5 : decode cX11_docket 5 = .ok (.invokestatic 54, 3) := by decide +kernel
theorem dX11_docket_8 : decode cX11_docket 8 = .ok (.istore_n 2, 1) := by decide +kernel
theorem dX11_docket_9 : decode cX11_docket 9 = .ok (.iload_n 1, 1) := by decide +kernel
theorem dX11_docket_10 : decode cX11_docket 10 = .ok (.ifCond .eq 10, 3) := by decide +kernel
theorem dX11_docket_13 : decode cX11_docket 13 = .ok (.iload_n 2, 1) := by decide +kernel
theorem dX11_docket_14 : decode cX11_docket 14 = .ok (.ifCond .ne 6, 3) := by decide +kernel
theorem dX11_docket_17 : decode cX11_docket 17 = .ok (.bipush (-102), 2) := by decide +kernel
theorem dX11_docket_19 : decode cX11_docket 19 = .ok (.ireturn, 1) := by decide +kernel
theorem dX11_docket_20 : decode cX11_docket 20 = .ok (.aload_n 0, 1) := by decide +kernel
theorem dX11_docket_21 : decode cX11_docket 21 = .ok (.getfield 19, 3) := by decide +kernel
theorem dX11_docket_24 : decode cX11_docket 24 = .ok (.invokevirtual 157, 3) := by decide +kernel
theorem dX11_docket_27 : decode cX11_docket 27 = .ok (.ifCond .eq 6, 3) := by decide +kernel
theorem dX11_docket_30 : decode cX11_docket 30 = .ok (.bipush (-103), 2) := by decide +kernel
theorem dX11_docket_32 : decode cX11_docket 32 = .ok (.ireturn, 1) := by decide +kernel
theorem dX11_docket_33 : decode cX11_docket 33 = .ok (.aload_n 0, 1) := by decide +kernel
theorem dX11_docket_34 : decode cX11_docket 34 = .ok (.getfield 43, 3) := by decide +kernel
theorem dX11_docket_37 : decode cX11_docket 37 = .ok (.aload_n 0, 1) := by decide +kernel
theorem dX11_docket_38 : decode cX11_docket 38 = .ok (.getfield 19, 3) := by decide +kernel
theorem dX11_docket_41 : decode cX11_docket 41 = .ok (.invokevirtual 185, 3) := by decide +kernel
theorem dX11_docket_44 : decode cX11_docket 44 = .ok (.iload_n 2, 1) := by decide +kernel
theorem dX11_docket_45 : decode cX11_docket 45 = .ok (.ifCond .ne 11, 3) := by decide +kernel
theorem dX11_docket_48 : decode cX11_docket 48 = .ok (.aload_n 0, 1) := by decide +kernel
theorem dX11_docket_49 : decode cX11_docket 49 = .ok (.getfield 43, 3) := by decide +kernel
theorem dX11_docket_52 : decode cX11_docket 52 = .ok (.getfield 189, 3) := by decide +kernel
theorem dX11_docket_55 : decode cX11_docket 55 = .ok (.ireturn, 1) := by decide +kernel
theorem dX11_docket_56 : decode cX11_docket 56 = .ok (.iload_n 1, 1) := by decide +kernel
theorem dX11_docket_57 : decode cX11_docket 57 = .ok (.bipush 10, 2) := by decide +kernel
theorem dX11_docket_59 : decode cX11_docket 59 = .ok (.isub, 1) := by decide +kernel
theorem dX11_docket_60 : decode cX11_docket 60 = .ok (.aload_n 0, 1) := by decide +kernel
theorem dX11_docket_61 : decode cX11_docket 61 = .ok (.getfield 19, 3) := by decide +kernel
theorem dX11_docket_64 : decode cX11_docket 64 = .ok (.getfield 166, 3) := by decide +kernel
theorem dX11_docket_67 : decode cX11_docket 67 = .ok (.if_icmp .ge 18, 3) := by decide +kernel
theorem dX11_docket_70 : decode cX11_docket 70 = .ok (.aload_n 0, 1) := by decide +kernel
theorem dX11_docket_71 : decode cX11_docket 71 = .ok (.getfield 43, 3) := by decide +kernel
theorem dX11_docket_74 : decode cX11_docket 74 = .ok (.getfield 192, 3) := by decide +kernel
theorem dX11_docket_77 : decode cX11_docket 77 = .ok (.iload_n 1, 1) := by decide +kernel
theorem dX11_docket_78 : decode cX11_docket 78 = .ok (.bipush 10, 2) := by decide +kernel
theorem dX11_docket_80 : decode cX11_docket 80 = .ok (.isub, 1) := by decide +kernel
theorem dX11_docket_81 : decode cX11_docket 81 = .ok (.iaload, 1) := by decide +kernel
theorem dX11_docket_82 : decode cX11_docket 82 = .ok (.goto 4, 3) := by decide +kernel
theorem dX11_docket_85 : decode cX11_docket 85 = .ok (.iconst (-1), 1) := by decide +kernel
theorem dX11_docket_86 : decode cX11_docket 86 = .ok (.ireturn, 1) := by decide +kernel
theorem dX11_odds_0 : decode cX11_odds 0 = .ok (.aload_n 0, 1) := by decide +kernel
theorem dX11_odds_1 : decode cX11_odds 1 = .ok (.getfield 19, 3) := by decide +kernel
theorem dX11_odds_4 : decode cX11_odds 4 = .ok (.iload_n 1, 1) := by decide +kernel
theorem dX11_odds_5 : decode cX11_odds 5 = .ok (.iload_n 2, 1) := by decide +kernel
theorem dX11_odds_6 : decode cX11_odds 6 = .ok (.invokevirtual 149, 3) := by decide +kernel
theorem dX11_odds_9 : decode cX11_odds 9 = .ok (.ifCond .ne 6, 3) := by decide +kernel
theorem dX11_odds_12 : decode cX11_odds 12 = .ok (.bipush (-101), 2) := by decide +kernel
theorem dX11_odds_14 : decode cX11_odds 14 = .ok (.ireturn, 1) := by decide +kernel
theorem dX11_odds_15 : decode cX11_odds 15 = .ok (.iload_n 3, 1) := by decide +kernel
theorem dX11_odds_16 : decode cX11_odds 16 = .ok (.iconst 1, 1) := by decide +kernel
theorem dX11_odds_17 : decode cX11_odds 17 = .ok (.bipush 6, 2) := by decide +kernel
theorem dX11_odds_19 : decode cX11_odds 19 = .ok (.invokestatic 54, 3) := by decide +kernel
theorem dX11_odds_22 : decode cX11_odds 22 = .ok (.ifCond .eq 24, 3) := by decide +kernel
theorem dX11_odds_25 : decode cX11_odds 25 = .ok (.iload 4, 2) := by decide +kernel
theorem dX11_odds_27 : decode cX11_odds 27 = .ok (.iconst 0, 1) := by decide +kernel
theorem dX11_odds_28 : decode cX11_odds 28 = .ok (.bipush 10, 2) := by decide +kernel
theorem dX11_odds_30 : decode cX11_odds 30 = .ok (.invokestatic 54, 3) := by decide +kernel
theorem dX11_odds_33 : decode cX11_odds 33 = .ok (.ifCond .eq 13, 3) := by decide +kernel
theorem dX11_odds_36 : decode cX11_odds 36 = .ok (.iload 5, 2) := by decide +kernel
theorem dX11_odds_38 : decode cX11_odds 38 = .ok (.iconst 0, 1) := by decide +kernel
theorem dX11_odds_39 : decode cX11_odds 39 = .ok (.iconst 1, 1) := by decide +kernel
theorem dX11_odds_40 : decode cX11_odds 40 = .ok (.invokestatic 54, 3) := by decide +kernel
theorem dX11_odds_43 : decode cX11_odds 43 = .ok (.ifCond .ne 6, 3) := by decide +kernel
theorem dX11_odds_46 : decode cX11_odds 46 = .ok (.bipush (-102), 2) := by decide +kernel
theorem dX11_odds_48 : decode cX11_odds 48 = .ok (.ireturn, 1) := by decide +kernel
theorem dX11_odds_49 : decode cX11_odds 49 = .ok (.iconst 0, 1) := by decide +kernel
theorem dX11_odds_50 : decode cX11_odds 50 = .ok (.istore 6, 2) := by decide +kernel
theorem dX11_odds_52 : decode cX11_odds 52 = .ok (.iconst 1, 1) := by decide +kernel
theorem dX11_odds_53 : decode cX11_odds 53 = .ok (.istore 7, 2) := by decide +kernel
theorem dX11_odds_55 : decode cX11_odds 55 = .ok (.iconst 1, 1) := by decide +kernel
theorem dX11_odds_56 : decode cX11_odds 56 = .ok (.istore 8, 2) := by decide +kernel
theorem dX11_odds_58 : decode cX11_odds 58 = .ok (.iconst 0, 1) := by decide +kernel
theorem dX11_odds_59 : decode cX11_odds 59 = .ok (.istore 9, 2) := by decide +kernel
theorem dX11_odds_61 : decode cX11_odds 61 = .ok (.iload 9, 2) := by decide +kernel
theorem dX11_odds_63 : decode cX11_odds 63 = .ok (.iload_n 3, 1) := by decide +kernel
theorem dX11_odds_64 : decode cX11_odds 64 = .ok (.if_icmp .ge 80, 3) := by decide +kernel
theorem dX11_odds_67 : decode cX11_odds 67 = .ok (.aload_n 0, 1) := by decide +kernel
theorem dX11_odds_68 : decode cX11_odds 68 = .ok (.getfield 19, 3) := by decide +kernel
theorem dX11_odds_71 : decode cX11_odds 71 = .ok (.iload_n 1, 1) := by decide +kernel
theorem dX11_odds_72 : decode cX11_odds 72 = .ok (.iload_n 2, 1) := by decide +kernel
theorem dX11_odds_73 : decode cX11_odds 73 = .ok (.aload_n 0, 1) := by decide +kernel
theorem dX11_odds_74 : decode cX11_odds 74 = .ok (.getfield 19, 3) := by decide +kernel
theorem dX11_odds_77 : decode cX11_odds 77 = .ok (.getfield 108, 3) := by decide +kernel
theorem dX11_odds_80 : decode cX11_odds 80 = .ok (.iload 9, 2) := by decide +kernel
theorem dX11_odds_82 : decode cX11_odds 82 = .ok (.iadd, 1) := by decide +kernel
theorem dX11_odds_83 : decode cX11_odds 83 = .ok (.bipush 13, 2) := by decide +kernel
theorem dX11_odds_85 : decode cX11_odds 85 = .ok (.irem, 1) := by decide +kernel
theorem dX11_odds_86 : decode cX11_odds 86 = .ok (.invokevirtual 153, 3) := by decide +kernel
theorem dX11_odds_89 : decode cX11_odds 89 = .ok (.ifCond .le 7, 3) := by decide +kernel
theorem dX11_odds_92 : decode cX11_odds 92 = .ok (.iconst 1, 1) := by decide +kernel
theorem dX11_odds_93 : decode cX11_odds 93 = .ok (.goto 4, 3) := by decide +kernel
theorem dX11_odds_96 : decode cX11_odds 96 = .ok (.iconst 0, 1) := by decide +kernel
theorem dX11_odds_97 : decode cX11_odds 97 = .ok (.istore 10, 2) := by decide +kernel
theorem dX11_odds_99 : decode cX11_odds 99 = .ok (.iload 6, 2) := by decide +kernel
theorem dX11_odds_101 : decode cX11_odds 101 = .ok (.bipush 10, 2) := by decide +kernel
theorem dX11_odds_103 : decode cX11_odds 103 = .ok (.imul, 1) := by decide +kernel
theorem dX11_odds_104 : decode cX11_odds 104 = .ok (.iload 10, 2) := by decide +kernel
theorem dX11_odds_106 : decode cX11_odds 106 = .ok (.ifCond .eq 14, 3) := by decide +kernel
theorem dX11_odds_109 : decode cX11_odds 109 = .ok (.iload 8, 2) := by decide +kernel
theorem dX11_odds_111 : decode cX11_odds 111 = .ok (.bipush 10, 2) := by decide +kernel
theorem dX11_odds_113 : decode cX11_odds 113 = .ok (.iload 4, 2) := by decide +kernel
theorem dX11_odds_115 : decode cX11_odds 115 = .ok (.isub, 1) := by decide +kernel
theorem dX11_odds_116 : decode cX11_odds 116 = .ok (.imul, 1) := by decide +kernel
theorem dX11_odds_117 : decode cX11_odds 117 = .ok (.goto 4, 3) := by decide +kernel
theorem dX11_odds_120 : decode cX11_odds 120 = .ok (.iconst 0, 1) := by decide +kernel
theorem dX11_odds_121 : decode cX11_odds 121 = .ok (.iadd, 1) := by decide +kernel
theorem dX11_odds_122 : decode cX11_odds 122 = .ok (.istore 6, 2) := by decide +kernel
theorem dX11_odds_124 : decode cX11_odds 124 = .ok (.iload 7, 2) := by decide +kernel
theorem dX11_odds_126 : decode cX11_odds 126 = .ok (.bipush 10, 2) := by decide +kernel
theorem dX11_odds_128 : decode cX11_odds 128 = .ok (.imul, 1) := by decide +kernel
theorem dX11_odds_129 : decode cX11_odds 129 = .ok (.istore 7, 2) := by decide +kernel
theorem dX11_odds_131 : decode cX11_odds 131 = .ok (.iload 8, 2) := by decide +kernel
theorem dX11_odds_133 : decode cX11_odds 133 = .ok (.iload 4, 2) := by decide +kernel
theorem dX11_odds_135 : decode cX11_odds 135 = .ok (.imul, 1) := by decide +kernel
theorem dX11_odds_136 : decode cX11_odds 136 = .ok (.istore 8, 2) := by decide +kernel
theorem dX11_odds_138 : decode cX11_odds 138 = .ok (.iinc 9 1, 3) := by decide +kernel
theorem dX11_odds_141 : decode cX11_odds 141 = .ok (.goto (-80), 3) := by decide +kernel
theorem dX11_odds_144 : decode cX11_odds 144 = .ok (.iload 6, 2) := by decide +kernel
theorem dX11_odds_146 : decode cX11_odds 146 = .ok (.iload 7, 2) := by decide +kernel
theorem dX11_odds_148 : decode cX11_odds 148 = .ok (.iload 5, 2) := by decide +kernel
theorem dX11_odds_150 : decode cX11_odds 150 = .ok (.ifCond .ne 7, 3) := by decide +kernel
theorem dX11_odds_153 : decode cX11_odds 153 = .ok (.iconst 1, 1) := by decide +kernel
theorem dX11_odds_154 : decode cX11_odds 154 = .ok (.goto 4, 3) := by decide +kernel
theorem dX11_odds_157 : decode cX11_odds 157 = .ok (.iconst 0, 1) := by decide +kernel
theorem dX11_odds_158 : decode cX11_odds 158 = .ok (.invokestatic 195, 3) := by decide +kernel
theorem dX11_odds_161 : decode cX11_odds 161 = .ok (.ireturn, 1) := by decide +kernel
theorem dX11_see_0 : decode cX11_see 0 = .ok (.aload_n 0, 1) := by decide +kernel
theorem dX11_see_1 : decode cX11_see 1 = .ok (.getfield 19, 3) := by decide +kernel
theorem dX11_see_4 : decode cX11_see 4 = .ok (.iload_n 1, 1) := by decide +kernel
theorem dX11_see_5 : decode cX11_see 5 = .ok (.invokevirtual 88, 3) := by decide +kernel
theorem dX11_see_8 : decode cX11_see 8 = .ok (.ifCond .ne 6, 3) := by decide +kernel
theorem dX11_see_11 : decode cX11_see 11 = .ok (.bipush (-101), 2) := by decide +kernel
theorem dX11_see_13 : decode cX11_see 13 = .ok (.ireturn, 1) := by decide +kernel
theorem dX11_see_14 : decode cX11_see 14 = .ok (.iload_n 2, 1) := by decide +kernel
theorem dX11_see_15 : decode cX11_see 15 = .ok (.invokestatic 134, 3) := by decide +kernel
theorem dX11_see_18 : decode cX11_see 18 = .ok (.ifCond .eq 10, 3) := by decide +kernel
theorem dX11_see_21 : decode cX11_see 21 = .ok (.iload_n 3, 1) := by decide +kernel
theorem dX11_see_22 : decode cX11_see 22 = .ok (.invokestatic 163, 3) := by decide +kernel
theorem dX11_see_25 : decode cX11_see 25 = .ok (.ifCond .ne 6, 3) := by decide +kernel
theorem dX11_see_28 : decode cX11_see 28 = .ok (.bipush (-102), 2) := by decide +kernel
theorem dX11_see_30 : decode cX11_see 30 = .ok (.ireturn, 1) := by decide +kernel
theorem dX11_see_31 : decode cX11_see 31 = .ok (.aload_n 0, 1) := by decide +kernel
theorem dX11_see_32 : decode cX11_see 32 = .ok (.getfield 19, 3) := by decide +kernel
theorem dX11_see_35 : decode cX11_see 35 = .ok (.getfield 199, 3) := by decide +kernel
theorem dX11_see_38 : decode cX11_see 38 = .ok (.bipush 8, 2) := by decide +kernel
theorem dX11_see_40 : decode cX11_see 40 = .ok (.if_icmp .lt 6, 3) := by decide +kernel
theorem dX11_see_43 : decode cX11_see 43 = .ok (.bipush (-104), 2) := by decide +kernel
theorem dX11_see_45 : decode cX11_see 45 = .ok (.ireturn, 1) := by decide +kernel
theorem dX11_see_46 : decode cX11_see 46 = .ok (.aload_n 0, 1) := by decide +kernel
theorem dX11_see_47 : decode cX11_see 47 = .ok (.getfield 19, 3) := by decide +kernel
theorem dX11_see_50 : decode cX11_see 50 = .ok (.getfield 202, 3) := by decide +kernel
theorem dX11_see_53 : decode cX11_see 53 = .ok (.aload_n 0, 1) := by decide +kernel
theorem dX11_see_54 : decode cX11_see 54 = .ok (.getfield 19, 3) := by decide +kernel
theorem dX11_see_57 : decode cX11_see 57 = .ok (.getfield 199, 3) := by decide +kernel
theorem dX11_see_60 : decode cX11_see 60 = .ok (.iload_n 1, 1) := by decide +kernel
theorem dX11_see_61 : decode cX11_see 61 = .ok (.iastore, 1) := by decide +kernel
theorem dX11_see_62 : decode cX11_see 62 = .ok (.aload_n 0, 1) := by decide +kernel
theorem dX11_see_63 : decode cX11_see 63 = .ok (.getfield 19, 3) := by decide +kernel
theorem dX11_see_66 : decode cX11_see 66 = .ok (.getfield 205, 3) := by decide +kernel
theorem dX11_see_69 : decode cX11_see 69 = .ok (.aload_n 0, 1) := by decide +kernel
theorem dX11_see_70 : decode cX11_see 70 = .ok (.getfield 19, 3) := by decide +kernel
theorem dX11_see_73 : decode cX11_see 73 = .ok (.getfield 199, 3) := by decide +kernel
theorem dX11_see_76 : decode cX11_see 76 = .ok (.iload_n 2, 1) := by decide +kernel
theorem dX11_see_77 : decode cX11_see 77 = .ok (.iastore, 1) := by decide +kernel
theorem dX11_see_78 : decode cX11_see 78 = .ok (.aload_n 0, 1) := by decide +kernel
theorem dX11_see_79 : decode cX11_see 79 = .ok (.getfield 19, 3) := by decide +kernel
theorem dX11_see_82 : decode cX11_see 82 = .ok (.getfield 208, 3) := by decide +kernel
theorem dX11_see_85 : decode cX11_see 85 = .ok (.aload_n 0, 1) := by decide +kernel
theorem dX11_see_86 : decode cX11_see 86 = .ok (.getfield 19, 3) := by decide +kernel
theorem dX11_see_89 : decode cX11_see 89 = .ok (.getfield 199, 3) := by decide +kernel
theorem dX11_see_92 : decode cX11_see 92 = .ok (.iload_n 3, 1) := by decide +kernel
theorem dX11_see_93 : decode cX11_see 93 = .ok (.iastore, 1) := by decide +kernel
theorem dX11_see_94 : decode cX11_see 94 = .ok (.aload_n 0, 1) := by decide +kernel
theorem dX11_see_95 : decode cX11_see 95 = .ok (.getfield 19, 3) := by decide +kernel
theorem dX11_see_98 : decode cX11_see 98 = .ok (.getfield 211, 3) := by decide +kernel
theorem dX11_see_101 : decode cX11_see 101 = .ok (.aload_n 0, 1) := by decide +kernel
theorem dX11_see_102 : decode cX11_see 102 = .ok (.getfield 19, 3) := by decide +kernel
theorem dX11_see_105 : decode cX11_see 105 = .ok (.getfield 199, 3) := by decide +kernel
theorem dX11_see_108 : decode cX11_see 108 = .ok (.iload 4, 2) := by decide +kernel
theorem dX11_see_110 : decode cX11_see 110 = .ok (.ifCond .eq 7, 3) := by decide +kernel
theorem dX11_see_113 : decode cX11_see 113 = .ok (.iconst 1, 1) := by decide +kernel
theorem dX11_see_114 : decode cX11_see 114 = .ok (.goto 4, 3) := by decide +kernel
theorem dX11_see_117 : decode cX11_see 117 = .ok (.iconst 0, 1) := by decide +kernel
theorem dX11_see_118 : decode cX11_see 118 = .ok (.iastore, 1) := by decide +kernel
theorem dX11_see_119 : decode cX11_see 119 = .ok (.aload_n 0, 1) := by decide +kernel
theorem dX11_see_120 : decode cX11_see 120 = .ok (.getfield 19, 3) := by decide +kernel
theorem dX11_see_123 : decode cX11_see 123 = .ok (.dup, 1) := by decide +kernel
theorem dX11_see_124 : decode cX11_see 124 = .ok (.getfield 199, 3) := by decide +kernel
theorem dX11_see_127 : decode cX11_see 127 = .ok (.iconst 1, 1) := by decide +kernel
theorem dX11_see_128 : decode cX11_see 128 = .ok (.iadd, 1) := by decide +kernel
theorem dX11_see_129 : decode cX11_see 129 = .ok (.putfield 199, 3) := by decide +kernel
theorem dX11_see_132 : decode cX11_see 132 = .ok (.aload_n 0, 1) := by decide +kernel
theorem dX11_see_133 : decode cX11_see 133 = .ok (.getfield 19, 3) := by decide +kernel
theorem dX11_see_136 : decode cX11_see 136 = .ok (.getfield 199, 3) := by decide +kernel
theorem dX11_see_139 : decode cX11_see 139 = .ok (.ireturn, 1) := by decide +kernel
theorem dX11_forget_0 : decode cX11_forget 0 = .ok (.aload_n 0, 1) := by decide +kernel
theorem dX11_forget_1 : decode cX11_forget 1 = .ok (.getfield 19, 3) := by decide +kernel
theorem dX11_forget_4 : decode cX11_forget 4 = .ok (.getfield 199, 3) := by decide +kernel
theorem dX11_forget_7 : decode cX11_forget 7 = .ok (.istore_n 1, 1) := by decide +kernel
theorem dX11_forget_8 : decode cX11_forget 8 = .ok (.aload_n 0, 1) := by decide +kernel
theorem dX11_forget_9 : decode cX11_forget 9 = .ok (.getfield 19, 3) := by decide +kernel
theorem dX11_forget_12 : decode cX11_forget 12 = .ok (.iconst 0, 1) := by decide +kernel
theorem dX11_forget_13 : decode cX11_forget 13 = .ok (.putfield 199, 3) := by decide +kernel
theorem dX11_forget_16 : decode cX11_forget 16 = .ok (.iload_n 1, 1) := by decide +kernel
theorem dX11_forget_17 : decode cX11_forget 17 = .ok (.ireturn, 1) := by decide +kernel
theorem dX11_terms_0 : decode cX11_terms 0 = .ok (.iload_n 1, 1) := by decide +kernel
theorem dX11_terms_1 : decode cX11_terms 1 = .ok (.iconst 1, 1) := by decide +kernel
theorem dX11_terms_2 : decode cX11_terms 2 = .ok (.bipush 60, 2) := by decide +kernel
theorem dX11_terms_4 : decode cX11_terms 4 = .ok (.invokestatic 54, 3) := by decide +kernel
theorem dX11_terms_7 : decode cX11_terms 7 = .ok (.ifCond .eq 16, 3) := by decide +kernel
theorem dX11_terms_10 : decode cX11_terms 10 = .ok (.iload_n 2, 1) := by decide +kernel
theorem dX11_terms_11 : decode cX11_terms 11 = .ok (.ifCond .lt 12, 3) := by decide +kernel
theorem dX11_terms_14 : decode cX11_terms 14 = .ok (.iload_n 3, 1) := by decide +kernel
theorem dX11_terms_15 : decode cX11_terms 15 = .ok (.iconst 0, 1) := by decide +kernel
theorem dX11_terms_16 : decode cX11_terms 16 = .ok (.iconst 2, 1) := by decide +kernel
theorem dX11_terms_17 : decode cX11_terms 17 = .ok (.invokestatic 54, 3) := by decide +kernel
theorem dX11_terms_20 : decode cX11_terms 20 = .ok (.ifCond .ne 6, 3) := by decide +kernel
theorem dX11_terms_23 : decode cX11_terms 23 = .ok (.bipush (-102), 2) := by decide +kernel
theorem dX11_terms_25 : decode cX11_terms 25 = .ok (.ireturn, 1) := by decide +kernel
theorem dX11_terms_26 : decode cX11_terms 26 = .ok (.aload_n 0, 1) := by decide +kernel
theorem dX11_terms_27 : decode cX11_terms 27 = .ok (.getfield 19, 3) := by decide +kernel
theorem dX11_terms_30 : decode cX11_terms 30 = .ok (.invokevirtual 157, 3) := by decide +kernel
theorem dX11_terms_33 : decode cX11_terms 33 = .ok (.ifCond .eq 6, 3) := by decide +kernel
theorem dX11_terms_36 : decode cX11_terms 36 = .ok (.bipush (-103), 2) := by decide +kernel
theorem dX11_terms_38 : decode cX11_terms 38 = .ok (.ireturn, 1) := by decide +kernel
theorem dX11_terms_39 : decode cX11_terms 39 = .ok (.aload_n 0, 1) := by decide +kernel
theorem dX11_terms_40 : decode cX11_terms 40 = .ok (.getfield 50, 3) := by decide +kernel
theorem dX11_terms_43 : decode cX11_terms 43 = .ok (.aload_n 0, 1) := by decide +kernel
theorem dX11_terms_44 : decode cX11_terms 44 = .ok (.getfield 19, 3) := by decide +kernel
theorem dX11_terms_47 : decode cX11_terms 47 = .ok (.iload_n 1, 1) := by decide +kernel
theorem dX11_terms_48 : decode cX11_terms 48 = .ok (.iload_n 2, 1) := by decide +kernel
theorem dX11_terms_49 : decode cX11_terms 49 = .ok (.invokevirtual 214, 3) := by decide +kernel
theorem dX11_terms_52 : decode cX11_terms 52 = .ok (.iload_n 3, 1) := by decide +kernel
theorem dX11_terms_53 : decode cX11_terms 53 = .ok (.ifCond .ne 11, 3) := by decide +kernel
theorem dX11_terms_56 : decode cX11_terms 56 = .ok (.aload_n 0, 1) := by decide +kernel
theorem dX11_terms_57 : decode cX11_terms 57 = .ok (.getfield 50, 3) := by decide +kernel
theorem dX11_terms_60 : decode cX11_terms 60 = .ok (.getfield 218, 3) := by decide +kernel
theorem dX11_terms_63 : decode cX11_terms 63 = .ok (.ireturn, 1) := by decide +kernel
theorem dX11_terms_64 : decode cX11_terms 64 = .ok (.iload_n 3, 1) := by decide +kernel
theorem dX11_terms_65 : decode cX11_terms 65 = .ok (.iconst 1, 1) := by decide +kernel
theorem dX11_terms_66 : decode cX11_terms 66 = .ok (.if_icmp .ne 13, 3) := by decide +kernel
theorem dX11_terms_69 : decode cX11_terms 69 = .ok (.aload_n 0, 1) := by decide +kernel
theorem dX11_terms_70 : decode cX11_terms 70 = .ok (.getfield 50, 3) := by decide +kernel
theorem dX11_terms_73 : decode cX11_terms 73 = .ok (.getfield 221, 3) := by decide +kernel
theorem dX11_terms_76 : decode cX11_terms 76 = .ok (.goto 11, 3) := by decide +kernel
theorem dX11_terms_79 : decode cX11_terms 79 = .ok (.aload_n 0, 1) := by decide +kernel
theorem dX11_terms_80 : decode cX11_terms 80 = .ok (.getfield 50, 3) := by decide +kernel
theorem dX11_terms_83 : decode cX11_terms 83 = .ok (.getfield 224, 3) := by decide +kernel
theorem dX11_terms_86 : decode cX11_terms 86 = .ok (.l2i, 1) := by decide +kernel
theorem dX11_terms_87 : decode cX11_terms 87 = .ok (.ireturn, 1) := by decide +kernel
theorem dX11_image_0 : decode cX11_image 0 = .ok (.aload_n 0, 1) := by decide +kernel
theorem dX11_image_1 : decode cX11_image 1 = .ok (.getfield 19, 3) := by decide +kernel
theorem dX11_image_4 : decode cX11_image 4 = .ok (.invokevirtual 157, 3) := by decide +kernel
theorem dX11_image_7 : decode cX11_image 7 = .ok (.ifCond .eq 6, 3) := by decide +kernel
theorem dX11_image_10 : decode cX11_image 10 = .ok (.bipush (-103), 2) := by decide +kernel
theorem dX11_image_12 : decode cX11_image 12 = .ok (.ireturn, 1) := by decide +kernel
theorem dX11_image_13 : decode cX11_image 13 = .ok (.aload_n 0, 1) := by decide +kernel
theorem dX11_image_14 : decode cX11_image 14 = .ok (.getfield 23, 3) := by decide +kernel
theorem dX11_image_17 : decode cX11_image 17 = .ok (.aload_n 0, 1) := by decide +kernel
theorem dX11_image_18 : decode cX11_image 18 = .ok (.getfield 19, 3) := by decide +kernel
theorem dX11_image_21 : decode cX11_image 21 = .ok (.invokevirtual 228, 3) := by decide +kernel
theorem dX11_image_24 : decode cX11_image 24 = .ok (.aload_n 0, 1) := by decide +kernel
theorem dX11_image_25 : decode cX11_image 25 = .ok (.iconst 1, 1) := by decide +kernel
theorem dX11_image_26 : decode cX11_image 26 = .ok (.putfield 78, 3) := by decide +kernel
theorem dX11_image_29 : decode cX11_image 29 = .ok (.aload_n 0, 1) := by decide +kernel
theorem dX11_image_30 : decode cX11_image 30 = .ok (.getfield 23, 3) := by decide +kernel
theorem dX11_image_33 : decode cX11_image 33 = .ok (.invokevirtual 231, 3) := by decide +kernel
theorem dX11_image_36 : decode cX11_image 36 = .ok (.ireturn, 1) := by decide +kernel
theorem dX11_restore_0 : decode cX11_restore 0 = .ok (.aload_n 0, 1) := by decide +kernel
theorem dX11_restore_1 : decode cX11_restore 1 = .ok (.getfield 78, 3) := by decide +kernel
theorem dX11_restore_4 : decode cX11_restore 4 = .ok (.ifCond .ne 6, 3) := by decide +kernel
theorem dX11_restore_7 : decode cX11_restore 7 = .ok (.bipush (-103), 2) := by decide +kernel
theorem dX11_restore_9 : decode cX11_restore 9 = .ok (.ireturn, 1) := by decide +kernel
theorem dX11_restore_10 : decode cX11_restore 10 = .ok (.aload_n 0, 1) := by decide +kernel
theorem dX11_restore_11 : decode cX11_restore 11 = .ok (.getfield 19, 3) := by decide +kernel
theorem dX11_restore_14 : decode cX11_restore 14 = .ok (.aload_n 0, 1) := by decide +kernel
theorem dX11_restore_15 : decode cX11_restore 15 = .ok (.getfield 23, 3) := by decide +kernel
theorem dX11_restore_18 : decode cX11_restore 18 = .ok (.invokevirtual 228, 3) := by decide +kernel
theorem dX11_restore_21 : decode cX11_restore 21 = .ok (.aload_n 0, 1) := by decide +kernel
theorem dX11_restore_22 : decode cX11_restore 22 = .ok (.getfield 19, 3) := by decide +kernel
theorem dX11_restore_25 : decode cX11_restore 25 = .ok (.invokevirtual 231, 3) := by decide +kernel
theorem dX11_restore_28 : decode cX11_restore 28 = .ok (.ireturn, 1) := by decide +kernel
theorem dX11_count_0 : decode cX11_count 0 = .ok (.iload_n 1, 1) := by decide +kernel
theorem dX11_count_1 : decode cX11_count 1 = .ok (.tableswitch 149 0 10 #[59, 67, 75, 83, 94, 103, 112, 120, 128, 136, 144], 59) := by decide +kernel
theorem dX11_count_60 : decode cX11_count 60 = .ok (.aload_n 0, 1) := by decide +kernel
theorem dX11_count_61 : decode cX11_count 61 = .ok (.getfield 19, 3) := by decide +kernel
theorem dX11_count_64 : decode cX11_count 64 = .ok (.getfield 85, 3) := by decide +kernel
theorem dX11_count_67 : decode cX11_count 67 = .ok (.ireturn, 1) := by decide +kernel
theorem dX11_count_68 : decode cX11_count 68 = .ok (.aload_n 0, 1) := by decide +kernel
theorem dX11_count_69 : decode cX11_count 69 = .ok (.getfield 19, 3) := by decide +kernel
theorem dX11_count_72 : decode cX11_count 72 = .ok (.getfield 108, 3) := by decide +kernel
theorem dX11_count_75 : decode cX11_count 75 = .ok (.ireturn, 1) := by decide +kernel
theorem dX11_count_76 : decode cX11_count 76 = .ok (.aload_n 0, 1) := by decide +kernel
theorem dX11_count_77 : decode cX11_count 77 = .ok (.getfield 19, 3) := by decide +kernel
theorem dX11_count_80 : decode cX11_count 80 = .ok (.getfield 160, 3) := by decide +kernel
theorem dX11_count_83 : decode cX11_count 83 = .ok (.ireturn, 1) := by decide +kernel
theorem dX11_count_84 : decode cX11_count 84 = .ok (.aload_n 0, 1) := by decide +kernel
theorem dX11_count_85 : decode cX11_count 85 = .ok (.getfield 19, 3) := by decide +kernel
theorem dX11_count_88 : decode cX11_count 88 = .ok (.sipush 1023, 3) := by decide +kernel
theorem dX11_count_91 : decode cX11_count 91 = .ok (.invokevirtual 115, 3) := by decide +kernel
theorem dX11_count_94 : decode cX11_count 94 = .ok (.ireturn, 1) := by decide +kernel
theorem dX11_count_95 : decode cX11_count 95 = .ok (.aload_n 0, 1) := by decide +kernel
theorem dX11_count_96 : decode cX11_count 96 = .ok (.getfield 19, 3) := by decide +kernel
theorem dX11_count_99 : decode cX11_count 99 = .ok (.iconst 1, 1) := by decide +kernel
theorem dX11_count_100 : decode cX11_count 100 = .ok (.invokevirtual 234, 3) := by decide +kernel
theorem dX11_count_103 : decode cX11_count 103 = .ok (.ireturn, 1) := by decide +kernel
theorem dX11_count_104 : decode cX11_count 104 = .ok (.aload_n 0, 1) := by decide +kernel
theorem dX11_count_105 : decode cX11_count 105 = .ok (.getfield 19, 3) := by decide +kernel
theorem dX11_count_108 : decode cX11_count 108 = .ok (.iconst 2, 1) := by decide +kernel
theorem dX11_count_109 : decode cX11_count 109 = .ok (.invokevirtual 234, 3) := by decide +kernel
theorem dX11_count_112 : decode cX11_count 112 = .ok (.ireturn, 1) := by decide +kernel
theorem dX11_count_113 : decode cX11_count 113 = .ok (.aload_n 0, 1) := by decide +kernel
theorem dX11_count_114 : decode cX11_count 114 = .ok (.getfield 19, 3) := by decide +kernel
theorem dX11_count_117 : decode cX11_count 117 = .ok (.getfield 166, 3) := by decide +kernel
theorem dX11_count_120 : decode cX11_count 120 = .ok (.ireturn, 1) := by decide +kernel
theorem dX11_count_121 : decode cX11_count 121 = .ok (.aload_n 0, 1) := by decide +kernel
theorem dX11_count_122 : decode cX11_count 122 = .ok (.getfield 19, 3) := by decide +kernel
theorem dX11_count_125 : decode cX11_count 125 = .ok (.invokevirtual 237, 3) := by decide +kernel
theorem dX11_count_128 : decode cX11_count 128 = .ok (.ireturn, 1) := by decide +kernel
theorem dX11_count_129 : decode cX11_count 129 = .ok (.aload_n 0, 1) := by decide +kernel
theorem dX11_count_130 : decode cX11_count 130 = .ok (.getfield 19, 3) := by decide +kernel
theorem dX11_count_133 : decode cX11_count 133 = .ok (.getfield 199, 3) := by decide +kernel
theorem dX11_count_136 : decode cX11_count 136 = .ok (.ireturn, 1) := by decide +kernel
theorem dX11_count_137 : decode cX11_count 137 = .ok (.aload_n 0, 1) := by decide +kernel
theorem dX11_count_138 : decode cX11_count 138 = .ok (.getfield 10, 3) := by decide +kernel
theorem dX11_count_141 : decode cX11_count 141 = .ok (.getfield 58, 3) := by decide +kernel
theorem dX11_count_144 : decode cX11_count 144 = .ok (.ireturn, 1) := by decide +kernel
theorem dX11_count_145 : decode cX11_count 145 = .ok (.aload_n 0, 1) := by decide +kernel
theorem dX11_count_146 : decode cX11_count 146 = .ok (.getfield 82, 3) := by decide +kernel
theorem dX11_count_149 : decode cX11_count 149 = .ok (.ireturn, 1) := by decide +kernel
theorem dX11_count_150 : decode cX11_count 150 = .ok (.bipush (-102), 2) := by decide +kernel
theorem dX11_count_152 : decode cX11_count 152 = .ok (.ireturn, 1) := by decide +kernel
theorem dX11_digest_0 : decode cX11_digest 0 = .ok (.ldc2_w 240, 3) := by decide +kernel
theorem dX11_digest_3 : decode cX11_digest 3 = .ok (.lstore_n 1, 1) := by decide +kernel
theorem dX11_digest_4 : decode cX11_digest 4 = .ok (.iconst 0, 1) := by decide +kernel
theorem dX11_digest_5 : decode cX11_digest 5 = .ok (.istore_n 3, 1) := by decide +kernel
theorem dX11_digest_6 : decode cX11_digest 6 = .ok (.iload_n 3, 1) := by decide +kernel
theorem dX11_digest_7 : decode cX11_digest 7 = .ok (.aload_n 0, 1) := by decide +kernel
theorem dX11_digest_8 : decode cX11_digest 8 = .ok (.getfield 19, 3) := by decide +kernel
theorem dX11_digest_11 : decode cX11_digest 11 = .ok (.getfield 85, 3) := by decide +kernel
theorem dX11_digest_14 : decode cX11_digest 14 = .ok (.if_icmp .ge 69, 3) := by decide +kernel
theorem dX11_digest_17 : decode cX11_digest 17 = .ok (.iconst 0, 1) := by decide +kernel
theorem dX11_digest_18 : decode cX11_digest 18 = .ok (.istore 4, 2) := by decide +kernel
theorem dX11_digest_20 : decode cX11_digest 20 = .ok (.iload 4, 2) := by decide +kernel
theorem dX11_digest_22 : decode cX11_digest 22 = .ok (.bipush 6, 2) := by decide +kernel
theorem dX11_digest_24 : decode cX11_digest 24 = .ok (.if_icmp .gt 24, 3) := by decide +kernel
theorem dX11_digest_27 : decode cX11_digest 27 = .ok (.lload_n 1, 1) := by decide +kernel
theorem dX11_digest_28 : decode cX11_digest 28 = .ok (.ldc2_w 242, 3) := by decide +kernel
theorem dX11_digest_31 : decode cX11_digest 31 = .ok (.lmul, 1) := by decide +kernel
theorem dX11_digest_32 : decode cX11_digest 32 = .ok (.aload_n 0, 1) := by decide +kernel
theorem dX11_digest_33 : decode cX11_digest 33 = .ok (.iload_n 3, 1) := by decide +kernel
theorem dX11_digest_34 : decode cX11_digest 34 = .ok (.iload 4, 2) := by decide +kernel
theorem dX11_digest_36 : decode cX11_digest 36 = .ok (.invokevirtual 244, 3) := by decide +kernel
theorem dX11_digest_39 : decode cX11_digest 39 = .ok (.i2l, 1) := by decide +kernel
theorem dX11_digest_40 : decode cX11_digest 40 = .ok (.ladd, 1) := by decide +kernel
theorem dX11_digest_41 : decode cX11_digest 41 = .ok (.lstore_n 1, 1) := by decide +kernel
theorem dX11_digest_42 : decode cX11_digest 42 = .ok (.iinc 4 1, 3) := by decide +kernel
theorem dX11_digest_45 : decode cX11_digest 45 = .ok (.goto (-25), 3) := by decide +kernel
theorem dX11_digest_48 : decode cX11_digest 48 = .ok (.lload_n 1, 1) := by decide +kernel
theorem dX11_digest_49 : decode cX11_digest 49 = .ok (.ldc2_w 242, 3) := by decide +kernel
theorem dX11_digest_52 : decode cX11_digest 52 = .ok (.lmul, 1) := by decide +kernel
theorem dX11_digest_53 : decode cX11_digest 53 = .ok (.aload_n 0, 1) := by decide +kernel
theorem dX11_digest_54 : decode cX11_digest 54 = .ok (.iload_n 3, 1) := by decide +kernel
theorem dX11_digest_55 : decode cX11_digest 55 = .ok (.iconst 3, 1) := by decide +kernel
theorem dX11_digest_56 : decode cX11_digest 56 = .ok (.invokevirtual 247, 3) := by decide +kernel
theorem dX11_digest_59 : decode cX11_digest 59 = .ok (.i2l, 1) := by decide +kernel
theorem dX11_digest_60 : decode cX11_digest 60 = .ok (.ladd, 1) := by decide +kernel
theorem dX11_digest_61 : decode cX11_digest 61 = .ok (.lstore_n 1, 1) := by decide +kernel
theorem dX11_digest_62 : decode cX11_digest 62 = .ok (.lload_n 1, 1) := by decide +kernel
theorem dX11_digest_63 : decode cX11_digest 63 = .ok (.ldc2_w 242, 3) := by decide +kernel
theorem dX11_digest_66 : decode cX11_digest 66 = .ok (.lmul, 1) := by decide +kernel
theorem dX11_digest_67 : decode cX11_digest 67 = .ok (.aload_n 0, 1) := by decide +kernel
theorem dX11_digest_68 : decode cX11_digest 68 = .ok (.iload_n 3, 1) := by decide +kernel
theorem dX11_digest_69 : decode cX11_digest 69 = .ok (.bipush 10, 2) := by decide +kernel
theorem dX11_digest_71 : decode cX11_digest 71 = .ok (.invokevirtual 247, 3) := by decide +kernel
theorem dX11_digest_74 : decode cX11_digest 74 = .ok (.i2l, 1) := by decide +kernel
theorem dX11_digest_75 : decode cX11_digest 75 = .ok (.ladd, 1) := by decide +kernel
theorem dX11_digest_76 : decode cX11_digest 76 = .ok (.lstore_n 1, 1) := by decide +kernel
theorem dX11_digest_77 : decode cX11_digest 77 = .ok (.iinc 3 1, 3) := by decide +kernel
theorem dX11_digest_80 : decode cX11_digest 80 = .ok (.goto (-74), 3) := by decide +kernel
theorem dX11_digest_83 : decode cX11_digest 83 = .ok (.aload_n 0, 1) := by decide +kernel
theorem dX11_digest_84 : decode cX11_digest 84 = .ok (.getfield 19, 3) := by decide +kernel
theorem dX11_digest_87 : decode cX11_digest 87 = .ok (.invokevirtual 157, 3) := by decide +kernel
theorem dX11_digest_90 : decode cX11_digest 90 = .ok (.ifCond .ne 176, 3) := by decide +kernel
theorem dX11_digest_93 : decode cX11_digest 93 = .ok (.iconst 0, 1) := by decide +kernel
theorem dX11_digest_94 : decode cX11_digest 94 = .ok (.istore_n 3, 1) := by decide +kernel
theorem dX11_digest_95 : decode cX11_digest 95 = .ok (.iload_n 3, 1) := by decide +kernel
theorem dX11_digest_96 : decode cX11_digest 96 = .ok (.bipush 10, 2) := by decide +kernel
theorem dX11_digest_98 : decode cX11_digest 98 = .ok (.if_icmp .ge 39, 3) := by decide +kernel
theorem dX11_digest_101 : decode cX11_digest 101 = .ok (.iconst 0, 1) := by decide +kernel
theorem dX11_digest_102 : decode cX11_digest 102 = .ok (.istore 4, 2) := by decide +kernel
theorem dX11_digest_104 : decode cX11_digest 104 = .ok (.iload 4, 2) := by decide +kernel
theorem dX11_digest_106 : decode cX11_digest 106 = .ok (.iconst 2, 1) := by decide +kernel
theorem dX11_digest_107 : decode cX11_digest 107 = .ok (.if_icmp .gt 24, 3) := by decide +kernel
theorem dX11_digest_110 : decode cX11_digest 110 = .ok (.lload_n 1, 1) := by decide +kernel
theorem dX11_digest_111 : decode cX11_digest 111 = .ok (.ldc2_w 242, 3) := by decide +kernel
theorem dX11_digest_114 : decode cX11_digest 114 = .ok (.lmul, 1) := by decide +kernel
theorem dX11_digest_115 : decode cX11_digest 115 = .ok (.aload_n 0, 1) := by decide +kernel
theorem dX11_digest_116 : decode cX11_digest 116 = .ok (.iload_n 3, 1) := by decide +kernel
theorem dX11_digest_117 : decode cX11_digest 117 = .ok (.iload 4, 2) := by decide +kernel
theorem dX11_digest_119 : decode cX11_digest 119 = .ok (.invokevirtual 250, 3) := by decide +kernel
theorem dX11_digest_122 : decode cX11_digest 122 = .ok (.i2l, 1) := by decide +kernel
theorem dX11_digest_123 : decode cX11_digest 123 = .ok (.ladd, 1) := by decide +kernel
theorem dX11_digest_124 : decode cX11_digest 124 = .ok (.lstore_n 1, 1) := by decide +kernel
theorem dX11_digest_125 : decode cX11_digest 125 = .ok (.iinc 4 1, 3) := by decide +kernel
theorem dX11_digest_128 : decode cX11_digest 128 = .ok (.goto (-24), 3) := by decide +kernel
theorem dX11_digest_131 : decode cX11_digest 131 = .ok (.iinc 3 1, 3) := by decide +kernel
theorem dX11_digest_134 : decode cX11_digest 134 = .ok (.goto (-39), 3) := by decide +kernel
theorem dX11_digest_137 : decode cX11_digest 137 = .ok (.iconst 0, 1) := by decide +kernel
theorem dX11_digest_138 : decode cX11_digest 138 = .ok (.istore_n 3, 1) := by decide +kernel
theorem dX11_digest_139 : decode cX11_digest 139 = .ok (.iload_n 3, 1) := by decide +kernel
theorem dX11_digest_140 : decode cX11_digest 140 = .ok (.bipush 13, 2) := by decide +kernel
theorem dX11_digest_142 : decode cX11_digest 142 = .ok (.if_icmp .ge 24, 3) := by decide +kernel
theorem dX11_digest_145 : decode cX11_digest 145 = .ok (.lload_n 1, 1) := by decide +kernel
theorem dX11_digest_146 : decode cX11_digest 146 = .ok (.ldc2_w 242, 3) := by decide +kernel
theorem dX11_digest_149 : decode cX11_digest 149 = .ok (.lmul, 1) := by decide +kernel
theorem dX11_digest_150 : decode cX11_digest 150 = .ok (.aload_n 0, 1) := by decide +kernel
theorem dX11_digest_151 : decode cX11_digest 151 = .ok (.iconst 0, 1) := by decide +kernel
theorem dX11_digest_152 : decode cX11_digest 152 = .ok (.iconst 1, 1) := by decide +kernel
theorem dX11_digest_153 : decode cX11_digest 153 = .ok (.iload_n 3, 1) := by decide +kernel
theorem dX11_digest_154 : decode cX11_digest 154 = .ok (.invokevirtual 252, 3) := by decide +kernel
theorem dX11_digest_157 : decode cX11_digest 157 = .ok (.i2l, 1) := by decide +kernel
theorem dX11_digest_158 : decode cX11_digest 158 = .ok (.ladd, 1) := by decide +kernel
theorem dX11_digest_159 : decode cX11_digest 159 = .ok (.lstore_n 1, 1) := by decide +kernel
theorem dX11_digest_160 : decode cX11_digest 160 = .ok (.iinc 3 1, 3) := by decide +kernel
theorem dX11_digest_163 : decode cX11_digest 163 = .ok (.goto (-24), 3) := by decide +kernel
theorem dX11_digest_166 : decode cX11_digest 166 = .ok (.iconst 0, 1) := by decide +kernel
theorem dX11_digest_167 : decode cX11_digest 167 = .ok (.istore_n 3, 1) := by decide +kernel
theorem dX11_digest_168 : decode cX11_digest 168 = .ok (.iload_n 3, 1) := by decide +kernel
theorem dX11_digest_169 : decode cX11_digest 169 = .ok (.iconst 1, 1) := by decide +kernel
theorem dX11_digest_170 : decode cX11_digest 170 = .ok (.if_icmp .gt 25, 3) := by decide +kernel
theorem dX11_digest_173 : decode cX11_digest 173 = .ok (.lload_n 1, 1) := by decide +kernel
theorem dX11_digest_174 : decode cX11_digest 174 = .ok (.ldc2_w 242, 3) := by decide +kernel
theorem dX11_digest_177 : decode cX11_digest 177 = .ok (.lmul, 1) := by decide +kernel
theorem dX11_digest_178 : decode cX11_digest 178 = .ok (.aload_n 0, 1) := by decide +kernel
theorem dX11_digest_179 : decode cX11_digest 179 = .ok (.iconst 0, 1) := by decide +kernel
theorem dX11_digest_180 : decode cX11_digest 180 = .ok (.iconst 1, 1) := by decide +kernel
theorem dX11_digest_181 : decode cX11_digest 181 = .ok (.iconst 2, 1) := by decide +kernel
theorem dX11_digest_182 : decode cX11_digest 182 = .ok (.iload_n 3, 1) := by decide +kernel
theorem dX11_digest_183 : decode cX11_digest 183 = .ok (.invokevirtual 255, 3) := by decide +kernel
theorem dX11_digest_186 : decode cX11_digest 186 = .ok (.i2l, 1) := by decide +kernel
theorem dX11_digest_187 : decode cX11_digest 187 = .ok (.ladd, 1) := by decide +kernel
theorem dX11_digest_188 : decode cX11_digest 188 = .ok (.lstore_n 1, 1) := by decide +kernel
theorem dX11_digest_189 : decode cX11_digest 189 = .ok (.iinc 3 1, 3) := by decide +kernel
theorem dX11_digest_192 : decode cX11_digest 192 = .ok (.goto (-24), 3) := by decide +kernel
theorem dX11_digest_195 : decode cX11_digest 195 = .ok (.iconst 0, 1) := by decide +kernel
theorem dX11_digest_196 : decode cX11_digest 196 = .ok (.istore_n 3, 1) := by decide +kernel
theorem dX11_digest_197 : decode cX11_digest 197 = .ok (.iload_n 3, 1) := by decide +kernel
theorem dX11_digest_198 : decode cX11_digest 198 = .ok (.iconst 1, 1) := by decide +kernel
theorem dX11_digest_199 : decode cX11_digest 199 = .ok (.if_icmp .gt 26, 3) := by decide +kernel
theorem dX11_digest_202 : decode cX11_digest 202 = .ok (.lload_n 1, 1) := by decide +kernel
theorem dX11_digest_203 : decode cX11_digest 203 = .ok (.ldc2_w 242, 3) := by decide +kernel
theorem dX11_digest_206 : decode cX11_digest 206 = .ok (.lmul, 1) := by decide +kernel
theorem dX11_digest_207 : decode cX11_digest 207 = .ok (.aload_n 0, 1) := by decide +kernel
theorem dX11_digest_208 : decode cX11_digest 208 = .ok (.iconst 0, 1) := by decide +kernel
theorem dX11_digest_209 : decode cX11_digest 209 = .ok (.iconst 1, 1) := by decide +kernel
theorem dX11_digest_210 : decode cX11_digest 210 = .ok (.iconst 4, 1) := by decide +kernel
theorem dX11_digest_211 : decode cX11_digest 211 = .ok (.iconst 3, 1) := by decide +kernel
theorem dX11_digest_212 : decode cX11_digest 212 = .ok (.iload_n 3, 1) := by decide +kernel
theorem dX11_digest_213 : decode cX11_digest 213 = .ok (.invokevirtual 259, 3) := by decide +kernel
theorem dX11_digest_216 : decode cX11_digest 216 = .ok (.i2l, 1) := by decide +kernel
theorem dX11_digest_217 : decode cX11_digest 217 = .ok (.ladd, 1) := by decide +kernel
theorem dX11_digest_218 : decode cX11_digest 218 = .ok (.lstore_n 1, 1) := by decide +kernel
theorem dX11_digest_219 : decode cX11_digest 219 = .ok (.iinc 3 1, 3) := by decide +kernel
theorem dX11_digest_222 : decode cX11_digest 222 = .ok (.goto (-25), 3) := by decide +kernel
theorem dX11_digest_225 : decode cX11_digest 225 = .ok (.lload_n 1, 1) := by decide +kernel
theorem dX11_digest_226 : decode cX11_digest 226 = .ok (.ldc2_w 242, 3) := by decide +kernel
theorem dX11_digest_229 : decode cX11_digest 229 = .ok (.lmul, 1) := by decide +kernel
theorem dX11_digest_230 : decode cX11_digest 230 = .ok (.aload_n 0, 1) := by decide +kernel
theorem dX11_digest_231 : decode cX11_digest 231 = .ok (.iconst 0, 1) := by decide +kernel
theorem dX11_digest_232 : decode cX11_digest 232 = .ok (.invokevirtual 263, 3) := by decide +kernel
theorem dX11_digest_235 : decode cX11_digest 235 = .ok (.i2l, 1) := by decide +kernel
theorem dX11_digest_236 : decode cX11_digest 236 = .ok (.ladd, 1) := by decide +kernel
theorem dX11_digest_237 : decode cX11_digest 237 = .ok (.lstore_n 1, 1) := by decide +kernel
theorem dX11_digest_238 : decode cX11_digest 238 = .ok (.bipush 10, 2) := by decide +kernel
theorem dX11_digest_240 : decode cX11_digest 240 = .ok (.istore_n 3, 1) := by decide +kernel
theorem dX11_digest_241 : decode cX11_digest 241 = .ok (.iload_n 3, 1) := by decide +kernel
theorem dX11_digest_242 : decode cX11_digest 242 = .ok (.bipush 14, 2) := by decide +kernel
theorem dX11_digest_244 : decode cX11_digest 244 = .ok (.if_icmp .gt 22, 3) := by decide +kernel
theorem dX11_digest_247 : decode cX11_digest 247 = .ok (.lload_n 1, 1) := by decide +kernel
theorem dX11_digest_248 : decode cX11_digest 248 = .ok (.ldc2_w 242, 3) := by decide +kernel
theorem dX11_digest_251 : decode cX11_digest 251 = .ok (.lmul, 1) := by decide +kernel
theorem dX11_digest_252 : decode cX11_digest 252 = .ok (.aload_n 0, 1) := by decide +kernel
theorem dX11_digest_253 : decode cX11_digest 253 = .ok (.iload_n 3, 1) := by decide +kernel
theorem dX11_digest_254 : decode cX11_digest 254 = .ok (.invokevirtual 263, 3) := by decide +kernel
theorem dX11_digest_257 : decode cX11_digest 257 = .ok (.i2l, 1) := by decide +kernel
theorem dX11_digest_258 : decode cX11_digest 258 = .ok (.ladd, 1) := by decide +kernel
theorem dX11_digest_259 : decode cX11_digest 259 = .ok (.lstore_n 1, 1) := by decide +kernel
theorem dX11_digest_260 : decode cX11_digest 260 = .ok (.iinc 3 1, 3) := by decide +kernel
theorem dX11_digest_263 : decode cX11_digest 263 = .ok (.goto (-22), 3) := by decide +kernel
theorem dX11_digest_266 : decode cX11_digest 266 = .ok (.iconst 0, 1) := by decide +kernel
theorem dX11_digest_267 : decode cX11_digest 267 = .ok (.istore_n 3, 1) := by decide +kernel
theorem dX11_digest_268 : decode cX11_digest 268 = .ok (.iload_n 3, 1) := by decide +kernel
theorem dX11_digest_269 : decode cX11_digest 269 = .ok (.aload_n 0, 1) := by decide +kernel
theorem dX11_digest_270 : decode cX11_digest 270 = .ok (.getfield 10, 3) := by decide +kernel
theorem dX11_digest_273 : decode cX11_digest 273 = .ok (.getfield 58, 3) := by decide +kernel
theorem dX11_digest_276 : decode cX11_digest 276 = .ok (.if_icmp .ge 26, 3) := by decide +kernel
theorem dX11_digest_279 : decode cX11_digest 279 = .ok (.lload_n 1, 1) := by decide +kernel
theorem dX11_digest_280 : decode cX11_digest 280 = .ok (.ldc2_w 242, 3) := by decide +kernel
theorem dX11_digest_283 : decode cX11_digest 283 = .ok (.lmul, 1) := by decide +kernel
theorem dX11_digest_284 : decode cX11_digest 284 = .ok (.aload_n 0, 1) := by decide +kernel
theorem dX11_digest_285 : decode cX11_digest 285 = .ok (.getfield 10, 3) := by decide +kernel
theorem dX11_digest_288 : decode cX11_digest 288 = .ok (.getfield 62, 3) := by decide +kernel
theorem dX11_digest_291 : decode cX11_digest 291 = .ok (.iload_n 3, 1) := by decide +kernel
theorem dX11_digest_292 : decode cX11_digest 292 = .ok (.caload, 1) := by decide +kernel
theorem dX11_digest_293 : decode cX11_digest 293 = .ok (.i2l, 1) := by decide +kernel
theorem dX11_digest_294 : decode cX11_digest 294 = .ok (.ladd, 1) := by decide +kernel
theorem dX11_digest_295 : decode cX11_digest 295 = .ok (.lstore_n 1, 1) := by decide +kernel
theorem dX11_digest_296 : decode cX11_digest 296 = .ok (.iinc 3 1, 3) := by decide +kernel
theorem dX11_digest_299 : decode cX11_digest 299 = .ok (.goto (-31), 3) := by decide +kernel
theorem dX11_digest_302 : decode cX11_digest 302 = .ok (.iconst 0, 1) := by decide +kernel
theorem dX11_digest_303 : decode cX11_digest 303 = .ok (.istore_n 3, 1) := by decide +kernel
theorem dX11_digest_304 : decode cX11_digest 304 = .ok (.iload_n 3, 1) := by decide +kernel
theorem dX11_digest_305 : decode cX11_digest 305 = .ok (.bipush 10, 2) := by decide +kernel
theorem dX11_digest_307 : decode cX11_digest 307 = .ok (.if_icmp .gt 22, 3) := by decide +kernel
theorem dX11_digest_310 : decode cX11_digest 310 = .ok (.lload_n 1, 1) := by decide +kernel
theorem dX11_digest_311 : decode cX11_digest 311 = .ok (.ldc2_w 242, 3) := by decide +kernel
theorem dX11_digest_314 : decode cX11_digest 314 = .ok (.lmul, 1) := by decide +kernel
theorem dX11_digest_315 : decode cX11_digest 315 = .ok (.aload_n 0, 1) := by decide +kernel
theorem dX11_digest_316 : decode cX11_digest 316 = .ok (.iload_n 3, 1) := by decide +kernel
theorem dX11_digest_317 : decode cX11_digest 317 = .ok (.invokevirtual 266, 3) := by decide +kernel
theorem dX11_digest_320 : decode cX11_digest 320 = .ok (.i2l, 1) := by decide +kernel
theorem dX11_digest_321 : decode cX11_digest 321 = .ok (.ladd, 1) := by decide +kernel
theorem dX11_digest_322 : decode cX11_digest 322 = .ok (.lstore_n 1, 1) := by decide +kernel
theorem dX11_digest_323 : decode cX11_digest 323 = .ok (.iinc 3 1, 3) := by decide +kernel
theorem dX11_digest_326 : decode cX11_digest 326 = .ok (.goto (-22), 3) := by decide +kernel
theorem dX11_digest_329 : decode cX11_digest 329 = .ok (.lload_n 1, 1) := by decide +kernel
theorem dX11_digest_330 : decode cX11_digest 330 = .ok (.lreturn, 1) := by decide +kernel
theorem dX11_inLowestTerms_0 : decode cX11_inLowestTerms 0 = .ok (.iload_n 0, 1) := by decide +kernel
theorem dX11_inLowestTerms_1 : decode cX11_inLowestTerms 1 = .ok (.istore_n 3, 1) := by decide +kernel
theorem dX11_inLowestTerms_2 : decode cX11_inLowestTerms 2 = .ok (.iload_n 1, 1) := by decide +kernel
theorem dX11_inLowestTerms_3 : decode cX11_inLowestTerms 3 = .ok (.istore 4, 2) := by decide +kernel
theorem dX11_inLowestTerms_5 : decode cX11_inLowestTerms 5 = .ok (.iconst 0, 1) := by decide +kernel
theorem dX11_inLowestTerms_6 : decode cX11_inLowestTerms 6 = .ok (.istore 5, 2) := by decide +kernel
theorem dX11_inLowestTerms_8 : decode cX11_inLowestTerms 8 = .ok (.iload 5, 2) := by decide +kernel
theorem dX11_inLowestTerms_10 : decode cX11_inLowestTerms 10 = .ok (.bipush 6, 2) := by decide +kernel
theorem dX11_inLowestTerms_12 : decode cX11_inLowestTerms 12 = .ok (.if_icmp .ge 55, 3) := by decide +kernel
theorem dX11_inLowestTerms_15 : decode cX11_inLowestTerms 15 = .ok (.iload_n 3, 1) := by decide +kernel
theorem dX11_inLowestTerms_16 : decode cX11_inLowestTerms 16 = .ok (.iconst 2, 1) := by decide +kernel
theorem dX11_inLowestTerms_17 : decode cX11_inLowestTerms 17 = .ok (.irem, 1) := by decide +kernel
theorem dX11_inLowestTerms_18 : decode cX11_inLowestTerms 18 = .ok (.ifCond .ne 20, 3) := by decide +kernel
theorem dX11_inLowestTerms_21 : decode cX11_inLowestTerms 21 = .ok (.iload 4, 2) := by decide +kernel
theorem dX11_inLowestTerms_23 : decode cX11_inLowestTerms 23 = .ok (.iconst 2, 1) := by decide +kernel
theorem dX11_inLowestTerms_24 : decode cX11_inLowestTerms 24 = .ok (.irem, 1) := by decide +kernel
theorem dX11_inLowestTerms_25 : decode cX11_inLowestTerms 25 = .ok (.ifCond .ne 13, 3) := by decide +kernel
theorem dX11_inLowestTerms_28 : decode cX11_inLowestTerms 28 = .ok (.iload_n 3, 1) := by decide +kernel
theorem dX11_inLowestTerms_29 : decode cX11_inLowestTerms 29 = .ok (.iconst 2, 1) := by decide +kernel
theorem dX11_inLowestTerms_30 : decode cX11_inLowestTerms 30 = .ok (.idiv, 1) := by decide +kernel
theorem dX11_inLowestTerms_31 : decode cX11_inLowestTerms 31 = .ok (.istore_n 3, 1) := by decide +kernel
theorem dX11_inLowestTerms_32 : decode cX11_inLowestTerms 32 = .ok (.iload 4, 2) := by decide +kernel
theorem dX11_inLowestTerms_34 : decode cX11_inLowestTerms 34 = .ok (.iconst 2, 1) := by decide +kernel
theorem dX11_inLowestTerms_35 : decode cX11_inLowestTerms 35 = .ok (.idiv, 1) := by decide +kernel
theorem dX11_inLowestTerms_36 : decode cX11_inLowestTerms 36 = .ok (.istore 4, 2) := by decide +kernel
theorem dX11_inLowestTerms_38 : decode cX11_inLowestTerms 38 = .ok (.iload_n 3, 1) := by decide +kernel
theorem dX11_inLowestTerms_39 : decode cX11_inLowestTerms 39 = .ok (.iconst 5, 1) := by decide +kernel
theorem dX11_inLowestTerms_40 : decode cX11_inLowestTerms 40 = .ok (.irem, 1) := by decide +kernel
theorem dX11_inLowestTerms_41 : decode cX11_inLowestTerms 41 = .ok (.ifCond .ne 20, 3) := by decide +kernel
theorem dX11_inLowestTerms_44 : decode cX11_inLowestTerms 44 = .ok (.iload 4, 2) := by decide +kernel
theorem dX11_inLowestTerms_46 : decode cX11_inLowestTerms 46 = .ok (.iconst 5, 1) := by decide +kernel
theorem dX11_inLowestTerms_47 : decode cX11_inLowestTerms 47 = .ok (.irem, 1) := by decide +kernel
theorem dX11_inLowestTerms_48 : decode cX11_inLowestTerms 48 = .ok (.ifCond .ne 13, 3) := by decide +kernel
theorem dX11_inLowestTerms_51 : decode cX11_inLowestTerms 51 = .ok (.iload_n 3, 1) := by decide +kernel
theorem dX11_inLowestTerms_52 : decode cX11_inLowestTerms 52 = .ok (.iconst 5, 1) := by decide +kernel
theorem dX11_inLowestTerms_53 : decode cX11_inLowestTerms 53 = .ok (.idiv, 1) := by decide +kernel
theorem dX11_inLowestTerms_54 : decode cX11_inLowestTerms 54 = .ok (.istore_n 3, 1) := by decide +kernel
theorem dX11_inLowestTerms_55 : decode cX11_inLowestTerms 55 = .ok (.iload 4, 2) := by decide +kernel
theorem dX11_inLowestTerms_57 : decode cX11_inLowestTerms 57 = .ok (.iconst 5, 1) := by decide +kernel
theorem dX11_inLowestTerms_58 : decode cX11_inLowestTerms 58 = .ok (.idiv, 1) := by decide +kernel
theorem dX11_inLowestTerms_59 : decode cX11_inLowestTerms 59 = .ok (.istore 4, 2) := by decide +kernel
theorem dX11_inLowestTerms_61 : decode cX11_inLowestTerms 61 = .ok (.iinc 5 1, 3) := by decide +kernel
theorem dX11_inLowestTerms_64 : decode cX11_inLowestTerms 64 = .ok (.goto (-56), 3) := by decide +kernel
theorem dX11_inLowestTerms_67 : decode cX11_inLowestTerms 67 = .ok (.iload_n 2, 1) := by decide +kernel
theorem dX11_inLowestTerms_68 : decode cX11_inLowestTerms 68 = .ok (.ifCond .eq 7, 3) := by decide +kernel
theorem dX11_inLowestTerms_71 : decode cX11_inLowestTerms 71 = .ok (.iload_n 3, 1) := by decide +kernel
theorem dX11_inLowestTerms_72 : decode cX11_inLowestTerms 72 = .ok (.goto 5, 3) := by decide +kernel
theorem dX11_inLowestTerms_75 : decode cX11_inLowestTerms 75 = .ok (.iload 4, 2) := by decide +kernel
theorem dX11_inLowestTerms_77 : decode cX11_inLowestTerms 77 = .ok (.ireturn, 1) := by decide +kernel
theorem dX11_within_0 : decode cX11_within 0 = .ok (.iload_n 0, 1) := by decide +kernel
theorem dX11_within_1 : decode cX11_within 1 = .ok (.iload_n 1, 1) := by decide +kernel
theorem dX11_within_2 : decode cX11_within 2 = .ok (.if_icmp .lt 12, 3) := by decide +kernel
theorem dX11_within_5 : decode cX11_within 5 = .ok (.iload_n 0, 1) := by decide +kernel
theorem dX11_within_6 : decode cX11_within 6 = .ok (.iload_n 2, 1) := by decide +kernel
theorem dX11_within_7 : decode cX11_within 7 = .ok (.if_icmp .gt 7, 3) := by decide +kernel
theorem dX11_within_10 : decode cX11_within 10 = .ok (.iconst 1, 1) := by decide +kernel
theorem dX11_within_11 : decode cX11_within 11 = .ok (.goto 4, 3) := by decide +kernel
theorem dX11_within_14 : decode cX11_within 14 = .ok (.iconst 0, 1) := by decide +kernel
theorem dX11_within_15 : decode cX11_within 15 = .ok (.ireturn, 1) := by decide +kernel
theorem dX11_isTile_0 : decode cX11_isTile 0 = .ok (.iload_n 0, 1) := by decide +kernel
theorem dX11_isTile_1 : decode cX11_isTile 1 = .ok (.ifCond .lt 13, 3) := by decide +kernel
theorem dX11_isTile_4 : decode cX11_isTile 4 = .ok (.iload_n 0, 1) := by decide +kernel
theorem dX11_isTile_5 : decode cX11_isTile 5 = .ok (.bipush 10, 2) := by decide +kernel
theorem dX11_isTile_7 : decode cX11_isTile 7 = .ok (.if_icmp .ge 7, 3) := by decide +kernel
theorem dX11_isTile_10 : decode cX11_isTile 10 = .ok (.iconst 1, 1) := by decide +kernel
theorem dX11_isTile_11 : decode cX11_isTile 11 = .ok (.goto 4, 3) := by decide +kernel
theorem dX11_isTile_14 : decode cX11_isTile 14 = .ok (.iconst 0, 1) := by decide +kernel
theorem dX11_isTile_15 : decode cX11_isTile 15 = .ok (.ireturn, 1) := by decide +kernel
theorem dX11_isHour_0 : decode cX11_isHour 0 = .ok (.iload_n 0, 1) := by decide +kernel
theorem dX11_isHour_1 : decode cX11_isHour 1 = .ok (.ifCond .lt 13, 3) := by decide +kernel
theorem dX11_isHour_4 : decode cX11_isHour 4 = .ok (.iload_n 0, 1) := by decide +kernel
theorem dX11_isHour_5 : decode cX11_isHour 5 = .ok (.bipush 13, 2) := by decide +kernel
theorem dX11_isHour_7 : decode cX11_isHour 7 = .ok (.if_icmp .ge 7, 3) := by decide +kernel
theorem dX11_isHour_10 : decode cX11_isHour 10 = .ok (.iconst 1, 1) := by decide +kernel
theorem dX11_isHour_11 : decode cX11_isHour 11 = .ok (.goto 4, 3) := by decide +kernel
theorem dX11_isHour_14 : decode cX11_isHour 14 = .ok (.iconst 0, 1) := by decide +kernel
theorem dX11_isHour_15 : decode cX11_isHour 15 = .ok (.ireturn, 1) := by decide +kernel
theorem dX12_init_0 : decode cX12_init 0 = .ok (.aload_n 0, 1) := by decide +kernel
theorem dX12_init_1 : decode cX12_init 1 = .ok (.invokespecial 1, 3) := by decide +kernel
theorem dX12_init_4 : decode cX12_init 4 = .ok (.aload_n 0, 1) := by decide +kernel
theorem dX12_init_5 : decode cX12_init 5 = .ok (.bipush 10, 2) := by decide +kernel
theorem dX12_init_7 : decode cX12_init 7 = .ok (.newarray .int, 2) := by decide +kernel
theorem dX12_init_9 : decode cX12_init 9 = .ok (.putfield 7, 3) := by decide +kernel
theorem dX12_init_12 : decode cX12_init 12 = .ok (.aload_n 0, 1) := by decide +kernel
theorem dX12_init_13 : decode cX12_init 13 = .ok (.iconst 5, 1) := by decide +kernel
theorem dX12_init_14 : decode cX12_init 14 = .ok (.newarray .int, 2) := by decide +kernel
theorem dX12_init_16 : decode cX12_init 16 = .ok (.putfield 13, 3) := by decide +kernel
theorem dX12_init_19 : decode cX12_init 19 = .ok (.aload_n 0, 1) := by decide +kernel
theorem dX12_init_20 : decode cX12_init 20 = .ok (.iconst 5, 1) := by decide +kernel
theorem dX12_init_21 : decode cX12_init 21 = .ok (.newarray .int, 2) := by decide +kernel
theorem dX12_init_23 : decode cX12_init 23 = .ok (.putfield 16, 3) := by decide +kernel
theorem dX12_init_26 : decode cX12_init 26 = .ok (.aload_n 0, 1) := by decide +kernel
theorem dX12_init_27 : decode cX12_init 27 = .ok (.iconst 5, 1) := by decide +kernel
theorem dX12_init_28 : decode cX12_init 28 = .ok (.newarray .int, 2) := by decide +kernel
theorem dX12_init_30 : decode cX12_init 30 = .ok (.putfield 19, 3) := by decide +kernel
theorem dX12_init_33 : decode cX12_init 33 = .ok (.aload_n 0, 1) := by decide +kernel
theorem dX12_init_34 : decode cX12_init 34 = .ok (.iconst 5, 1) := by decide +kernel
theorem dX12_init_35 : decode cX12_init 35 = .ok (.newarray .int, 2) := by decide +kernel
theorem dX12_init_37 : decode cX12_init 37 = .ok (.putfield 22, 3) := by decide +kernel
theorem dX12_init_40 : decode cX12_init 40 = .ok (.aload_n 0, 1) := by decide +kernel
theorem dX12_init_41 : decode cX12_init 41 = .ok (.iconst 5, 1) := by decide +kernel
theorem dX12_init_42 : decode cX12_init 42 = .ok (.newarray .int, 2) := by decide +kernel
theorem dX12_init_44 : decode cX12_init 44 = .ok (.putfield 25, 3) := by decide +kernel
theorem dX12_init_47 : decode cX12_init 47 = .ok (.aload_n 0, 1) := by decide +kernel
theorem dX12_init_48 : decode cX12_init 48 = .ok (.bipush 8, 2) := by decide +kernel
theorem dX12_init_50 : decode cX12_init 50 = .ok (.newarray .int, 2) := by decide +kernel
theorem dX12_init_52 : decode cX12_init 52 = .ok (.putfield 28, 3) := by decide +kernel
theorem dX12_init_55 : decode cX12_init 55 = .ok (.aload_n 0, 1) := by decide +kernel
theorem dX12_init_56 : decode cX12_init 56 = .ok (.bipush 8, 2) := by decide +kernel
theorem dX12_init_58 : decode cX12_init 58 = .ok (.newarray .int, 2) := by decide +kernel
theorem dX12_init_60 : decode cX12_init 60 = .ok (.putfield 31, 3) := by decide +kernel
theorem dX12_init_63 : decode cX12_init 63 = .ok (.aload_n 0, 1) := by decide +kernel
theorem dX12_init_64 : decode cX12_init 64 = .ok (.bipush 8, 2) := by decide +kernel
theorem dX12_init_66 : decode cX12_init 66 = .ok (.newarray .int, 2) := by decide +kernel
theorem dX12_init_68 : decode cX12_init 68 = .ok (.putfield 34, 3) := by decide +kernel
theorem dX12_init_71 : decode cX12_init 71 = .ok (.aload_n 0, 1) := by decide +kernel
theorem dX12_init_72 : decode cX12_init 72 = .ok (.bipush 8, 2) := by decide +kernel
theorem dX12_init_74 : decode cX12_init 74 = .ok (.newarray .int, 2) := by decide +kernel
theorem dX12_init_76 : decode cX12_init 76 = .ok (.putfield 37, 3) := by decide +kernel
theorem dX12_init_79 : decode cX12_init 79 = .ok (.aload_n 0, 1) := by decide +kernel
theorem dX12_init_80 : decode cX12_init 80 = .ok (.bipush 34, 2) := by decide +kernel
theorem dX12_init_82 : decode cX12_init 82 = .ok (.newarray .byte, 2) := by decide +kernel
theorem dX12_init_84 : decode cX12_init 84 = .ok (.putfield 40, 3) := by decide +kernel
theorem dX12_init_87 : decode cX12_init 87 = .ok (.aload_n 0, 1) := by decide +kernel
theorem dX12_init_88 : decode cX12_init 88 = .ok (.bipush 100, 2) := by decide +kernel
theorem dX12_init_90 : decode cX12_init 90 = .ok (.newarray .int, 2) := by decide +kernel
theorem dX12_init_92 : decode cX12_init 92 = .ok (.putfield 44, 3) := by decide +kernel
theorem dX12_init_95 : decode cX12_init 95 = .ok (.aload_n 0, 1) := by decide +kernel
theorem dX12_init_96 : decode cX12_init 96 = .ok (.bipush 100, 2) := by decide +kernel
theorem dX12_init_98 : decode cX12_init 98 = .ok (.newarray .int, 2) := by decide +kernel
theorem dX12_init_100 : decode cX12_init 100 = .ok (.putfield 47, 3) := by decide +kernel
theorem dX12_init_103 : decode cX12_init 103 = .ok (.aload_n 0, 1) := by decide +kernel
theorem dX12_init_104 : decode cX12_init 104 = .ok (.iconst 5, 1) := by decide +kernel
theorem dX12_init_105 : decode cX12_init 105 = .ok (.newarray .int, 2) := by decide +kernel
theorem dX12_init_107 : decode cX12_init 107 = .ok (.putfield 50, 3) := by decide +kernel
theorem dX12_init_110 : decode cX12_init 110 = .ok (.aload_n 0, 1) := by decide +kernel
theorem dX12_init_111 : decode cX12_init 111 = .ok (.iconst 5, 1) := by decide +kernel
theorem dX12_init_112 : decode cX12_init 112 = .ok (.newarray .int, 2) := by decide +kernel
theorem dX12_init_114 : decode cX12_init 114 = .ok (.putfield 53, 3) := by decide +kernel
theorem dX12_init_117 : decode cX12_init 117 = .ok (.aload_n 0, 1) := by decide +kernel
theorem dX12_init_118 : decode cX12_init 118 = .ok (.bipush 10, 2) := by decide +kernel
theorem dX12_init_120 : decode cX12_init 120 = .ok (.newarray .int, 2) := by decide +kernel
theorem dX12_init_122 : decode cX12_init 122 = .ok (.putfield 56, 3) := by decide +kernel
theorem dX12_init_125 : decode cX12_init 125 = .ok (.aload_n 0, 1) := by decide +kernel
theorem dX12_init_126 : decode cX12_init 126 = .ok (.iconst 5, 1) := by decide +kernel
theorem dX12_init_127 : decode cX12_init 127 = .ok (.newarray .int, 2) := by decide +kernel
theorem dX12_init_129 : decode cX12_init 129 = .ok (.putfield 59, 3) := by decide +kernel
theorem dX12_init_132 : decode cX12_init 132 = .ok (.aload_n 0, 1) := by decide +kernel
theorem dX12_init_133 : decode cX12_init 133 = .ok (.iconst 5, 1) := by decide +kernel
theorem dX12_init_134 : decode cX12_init 134 = .ok (.newarray .int, 2) := by decide +kernel
theorem dX12_init_136 : decode cX12_init 136 = .ok (.putfield 62, 3) := by decide +kernel
theorem dX12_init_139 : decode cX12_init 139 = .ok (.aload_n 0, 1) := by decide +kernel
theorem dX12_init_140 : decode cX12_init 140 = .ok (.iconst 5, 1) := by decide +kernel
theorem dX12_init_141 : decode cX12_init 141 = .ok (.newarray .int, 2) := by decide +kernel
theorem dX12_init_143 : decode cX12_init 143 = .ok (.putfield 65, 3) := by decide +kernel
theorem dX12_init_146 : decode cX12_init 146 = .ok (.aload_n 0, 1) := by decide +kernel
theorem dX12_init_147 : decode cX12_init 147 = .ok (.iconst 5, 1) := by decide +kernel
theorem dX12_init_148 : decode cX12_init 148 = .ok (.newarray .int, 2) := by decide +kernel
theorem dX12_init_150 : decode cX12_init 150 = .ok (.putfield 68, 3) := by decide +kernel
theorem dX12_init_153 : decode cX12_init 153 = .ok (.aload_n 0, 1) := by decide +kernel
theorem dX12_init_154 : decode cX12_init 154 = .ok (.bipush 8, 2) := by decide +kernel
theorem dX12_init_156 : decode cX12_init 156 = .ok (.newarray .int, 2) := by decide +kernel
theorem dX12_init_158 : decode cX12_init 158 = .ok (.putfield 71, 3) := by decide +kernel
theorem dX12_init_161 : decode cX12_init 161 = .ok (.aload_n 0, 1) := by decide +kernel
theorem dX12_init_162 : decode cX12_init 162 = .ok (.bipush 8, 2) := by decide +kernel
theorem dX12_init_164 : decode cX12_init 164 = .ok (.newarray .int, 2) := by decide +kernel
theorem dX12_init_166 : decode cX12_init 166 = .ok (.putfield 74, 3) := by decide +kernel
theorem dX12_init_169 : decode cX12_init 169 = .ok (.aload_n 0, 1) := by decide +kernel
theorem dX12_init_170 : decode cX12_init 170 = .ok (.bipush 8, 2) := by decide +kernel
theorem dX12_init_172 : decode cX12_init 172 = .ok (.newarray .int, 2) := by decide +kernel
theorem dX12_init_174 : decode cX12_init 174 = .ok (.putfield 77, 3) := by decide +kernel
theorem dX12_init_177 : decode cX12_init 177 = .ok (.aload_n 0, 1) := by decide +kernel
theorem dX12_init_178 : decode cX12_init 178 = .ok (.bipush 8, 2) := by decide +kernel
theorem dX12_init_180 : decode cX12_init 180 = .ok (.newarray .int, 2) := by decide +kernel
theorem dX12_init_182 : decode cX12_init 182 = .ok (.putfield 80, 3) := by decide +kernel
theorem dX12_init_185 : decode cX12_init 185 = .ok (.return_, 1) := by decide +kernel
theorem dX12_within_0 : decode cX12_within 0 = .ok (.iload_n 0, 1) := by decide +kernel
theorem dX12_within_1 : decode cX12_within 1 = .ok (.iload_n 1, 1) := by decide +kernel
theorem dX12_within_2 : decode cX12_within 2 = .ok (.if_icmp .lt 12, 3) := by decide +kernel
theorem dX12_within_5 : decode cX12_within 5 = .ok (.iload_n 0, 1) := by decide +kernel
theorem dX12_within_6 : decode cX12_within 6 = .ok (.iload_n 2, 1) := by decide +kernel
theorem dX12_within_7 : decode cX12_within 7 = .ok (.if_icmp .gt 7, 3) := by decide +kernel
theorem dX12_within_10 : decode cX12_within 10 = .ok (.iconst 1, 1) := by decide +kernel
theorem dX12_within_11 : decode cX12_within 11 = .ok (.goto 4, 3) := by decide +kernel
theorem dX12_within_14 : decode cX12_within 14 = .ok (.iconst 0, 1) := by decide +kernel
theorem dX12_within_15 : decode cX12_within 15 = .ok (.ireturn, 1) := by decide +kernel
theorem dX12_isIn_0 : decode cX12_isIn 0 = .ok (.iload_n 0, 1) := by decide +kernel
theorem dX12_isIn_1 : decode cX12_isIn 1 = .ok (.iload_n 1, 1) := by decide +kernel
theorem dX12_isIn_2 : decode cX12_isIn 2 = .ok (.ishr, 1) := by decide +kernel
theorem dX12_isIn_3 : decode cX12_isIn 3 = .ok (.iconst 1, 1) := by decide +kernel
theorem dX12_isIn_4 : decode cX12_isIn 4 = .ok (.iand, 1) := by decide +kernel
theorem dX12_isIn_5 : decode cX12_isIn 5 = .ok (.iconst 1, 1) := by decide +kernel
theorem dX12_isIn_6 : decode cX12_isIn 6 = .ok (.if_icmp .ne 7, 3) := by decide +kernel
theorem dX12_isIn_9 : decode cX12_isIn 9 = .ok (.iconst 1, 1) := by decide +kernel
theorem dX12_isIn_10 : decode cX12_isIn 10 = .ok (.goto 4, 3) := by decide +kernel
theorem dX12_isIn_13 : decode cX12_isIn 13 = .ok (.iconst 0, 1) := by decide +kernel
theorem dX12_isIn_14 : decode cX12_isIn 14 = .ok (.ireturn, 1) := by decide +kernel
theorem dX12_size_0 : decode cX12_size 0 = .ok (.iconst 0, 1) := by decide +kernel
theorem dX12_size_1 : decode cX12_size 1 = .ok (.istore_n 1, 1) := by decide +kernel
theorem dX12_size_2 : decode cX12_size 2 = .ok (.iconst 0, 1) := by decide +kernel
theorem dX12_size_3 : decode cX12_size 3 = .ok (.istore_n 2, 1) := by decide +kernel
theorem dX12_size_4 : decode cX12_size 4 = .ok (.iload_n 2, 1) := by decide +kernel
theorem dX12_size_5 : decode cX12_size 5 = .ok (.bipush 13, 2) := by decide +kernel
theorem dX12_size_7 : decode cX12_size 7 = .ok (.if_icmp .ge 17, 3) := by decide +kernel
theorem dX12_size_10 : decode cX12_size 10 = .ok (.iload_n 1, 1) := by decide +kernel
theorem dX12_size_11 : decode cX12_size 11 = .ok (.iload_n 0, 1) := by decide +kernel
theorem dX12_size_12 : decode cX12_size 12 = .ok (.iload_n 2, 1) := by decide +kernel
theorem dX12_size_13 : decode cX12_size 13 = .ok (.ishr, 1) := by decide +kernel
theorem dX12_size_14 : decode cX12_size 14 = .ok (.iconst 1, 1) := by decide +kernel
theorem dX12_size_15 : decode cX12_size 15 = .ok (.iand, 1) := by decide +kernel
theorem dX12_size_16 : decode cX12_size 16 = .ok (.iadd, 1) := by decide +kernel
theorem dX12_size_17 : decode cX12_size 17 = .ok (.istore_n 1, 1) := by decide +kernel
theorem dX12_size_18 : decode cX12_size 18 = .ok (.iinc 2 1, 3) := by decide +kernel
theorem dX12_size_21 : decode cX12_size 21 = .ok (.goto (-17), 3) := by decide +kernel
theorem dX12_size_24 : decode cX12_size 24 = .ok (.iload_n 1, 1) := by decide +kernel
theorem dX12_size_25 : decode cX12_size 25 = .ok (.ireturn, 1) := by decide +kernel
theorem dX12_divisor_0 : decode cX12_divisor 0 = .ok (.iload_n 0, 1) := by decide +kernel
theorem dX12_divisor_1 : decode cX12_divisor 1 = .ok (.istore_n 2, 1) := by decide +kernel
theorem dX12_divisor_2 : decode cX12_divisor 2 = .ok (.iload_n 1, 1) := by decide +kernel
theorem dX12_divisor_3 : decode cX12_divisor 3 = .ok (.istore_n 3, 1) := by decide +kernel
theorem dX12_divisor_4 : decode cX12_divisor 4 = .ok (.iload_n 3, 1) := by decide +kernel
theorem dX12_divisor_5 : decode cX12_divisor 5 = .ok (.ifCond .eq 16, 3) := by decide +kernel
theorem dX12_divisor_8 : decode cX12_divisor 8 = .ok (.iload_n 2, 1) := by decide +kernel
theorem dX12_divisor_9 : decode cX12_divisor 9 = .ok (.iload_n 3, 1) := by decide +kernel
theorem dX12_divisor_10 : decode cX12_divisor 10 = .ok (.irem, 1) := by decide +kernel
theorem dX12_divisor_11 : decode cX12_divisor 11 = .ok (.istore 4, 2) := by decide +kernel
theorem dX12_divisor_13 : decode cX12_divisor 13 = .ok (.iload_n 3, 1) := by decide +kernel
theorem dX12_divisor_14 : decode cX12_divisor 14 = .ok (.istore_n 2, 1) := by decide +kernel
theorem dX12_divisor_15 : decode cX12_divisor 15 = .ok (.iload 4, 2) := by decide +kernel
theorem dX12_divisor_17 : decode cX12_divisor 17 = .ok (.istore_n 3, 1) := by decide +kernel
theorem dX12_divisor_18 : decode cX12_divisor 18 = .ok (.goto (-14), 3) := by decide +kernel
theorem dX12_divisor_21 : decode cX12_divisor 21 = .ok (.iload_n 2, 1) := by decide +kernel
theorem dX12_divisor_22 : decode cX12_divisor 22 = .ok (.ireturn, 1) := by decide +kernel
theorem dX12_letter_0 : decode cX12_letter 0 = .ok (.iload_n 1, 1) := by decide +kernel
theorem dX12_letter_1 : decode cX12_letter 1 = .ok (.bipush 32, 2) := by decide +kernel
theorem dX12_letter_3 : decode cX12_letter 3 = .ok (.bipush 126, 2) := by decide +kernel
theorem dX12_letter_5 : decode cX12_letter 5 = .ok (.invokestatic 83, 3) := by decide +kernel
theorem dX12_letter_8 : decode cX12_letter 8 = .ok (.ifCond .ne 6, 3) := by decide +kernel
theorem dX12_letter_11 : decode cX12_letter 11 = .ok (.bipush (-102), 2) := by decide +kernel
theorem dX12_letter_13 : decode cX12_letter 13 = .ok (.ireturn, 1) := by decide +kernel
theorem dX12_letter_14 : decode cX12_letter 14 = .ok (.aload_n 0, 1) := by decide +kernel
theorem dX12_letter_15 : decode cX12_letter 15 = .ok (.getfield 87, 3) := by decide +kernel
theorem dX12_letter_18 : decode cX12_letter 18 = .ok (.bipush 34, 2) := by decide +kernel
theorem dX12_letter_20 : decode cX12_letter 20 = .ok (.if_icmp .ne 6, 3) := by decide +kernel
theorem dX12_letter_23 : decode cX12_letter 23 = .ok (.bipush (-104), 2) := by decide +kernel
theorem dX12_letter_25 : decode cX12_letter 25 = .ok (.ireturn, 1) := by decide +kernel
theorem dX12_letter_26 : decode cX12_letter 26 = .ok (.aload_n 0, 1) := by decide +kernel
theorem dX12_letter_27 : decode cX12_letter 27 = .ok (.getfield 40, 3) := by decide +kernel
theorem dX12_letter_30 : decode cX12_letter 30 = .ok (.aload_n 0, 1) := by decide +kernel
theorem dX12_letter_31 : decode cX12_letter 31 = .ok (.getfield 87, 3) := by decide +kernel
theorem dX12_letter_34 : decode cX12_letter 34 = .ok (.iload_n 1, 1) := by decide +kernel
theorem dX12_letter_35 : decode cX12_letter 35 = .ok (.i2b, 1) := by decide +kernel
theorem dX12_letter_36 : decode cX12_letter 36 = .ok (.bastore, 1) := by decide +kernel
theorem dX12_letter_37 : decode cX12_letter 37 = .ok (.aload_n 0, 1) := by decide +kernel
theorem dX12_letter_38 : decode cX12_letter 38 = .ok (.dup, 1) := by decide +kernel
theorem dX12_letter_39 : decode cX12_letter 39 = .ok (.getfield 87, 3) := by decide +kernel
theorem dX12_letter_42 : decode cX12_letter 42 = .ok (.iconst 1, 1) := by decide +kernel
theorem dX12_letter_43 : decode cX12_letter 43 = .ok (.iadd, 1) := by decide +kernel
theorem dX12_letter_44 : decode cX12_letter 44 = .ok (.putfield 87, 3) := by decide +kernel
theorem dX12_letter_47 : decode cX12_letter 47 = .ok (.aload_n 0, 1) := by decide +kernel
theorem dX12_letter_48 : decode cX12_letter 48 = .ok (.getfield 87, 3) := by decide +kernel
theorem dX12_letter_51 : decode cX12_letter 51 = .ok (.ireturn, 1) := by decide +kernel
theorem dX12_blank_0 : decode cX12_blank 0 = .ok (.aload_n 0, 1) := by decide +kernel
theorem dX12_blank_1 : decode cX12_blank 1 = .ok (.getfield 87, 3) := by decide +kernel
theorem dX12_blank_4 : decode cX12_blank 4 = .ok (.istore_n 1, 1) := by decide +kernel
theorem dX12_blank_5 : decode cX12_blank 5 = .ok (.aload_n 0, 1) := by decide +kernel
theorem dX12_blank_6 : decode cX12_blank 6 = .ok (.iconst 0, 1) := by decide +kernel
theorem dX12_blank_7 : decode cX12_blank 7 = .ok (.putfield 87, 3) := by decide +kernel
theorem dX12_blank_10 : decode cX12_blank 10 = .ok (.iload_n 1, 1) := by decide +kernel
theorem dX12_blank_11 : decode cX12_blank 11 = .ok (.ireturn, 1) := by decide +kernel
theorem dX12_kindBy_0 : decode cX12_kindBy 0 = .ok (.iload_n 0, 1) := by decide +kernel
theorem dX12_kindBy_1 : decode cX12_kindBy 1 = .ok (.lookupswitch 61 #[(99, 57), (104, 53), (112, 51), (116, 55), (117, 59)], 51) := by decide +kernel
theorem dX12_kindBy_52 : decode cX12_kindBy 52 = .ok (.iconst 0, 1) := by decide +kernel
theorem dX12_kindBy_53 : decode cX12_kindBy 53 = .ok (.ireturn, 1) := by decide +kernel
theorem dX12_kindBy_54 : decode cX12_kindBy 54 = .ok (.iconst 1, 1) := by decide +kernel
theorem dX12_kindBy_55 : decode cX12_kindBy 55 = .ok (.ireturn, 1) := by decide +kernel
theorem dX12_kindBy_56 : decode cX12_kindBy 56 = .ok (.iconst 2, 1) := by decide +kernel
theorem dX12_kindBy_57 : decode cX12_kindBy 57 = .ok (.ireturn, 1) := by decide +kernel
theorem dX12_kindBy_58 : decode cX12_kindBy 58 = .ok (.iconst 3, 1) := by decide +kernel
theorem dX12_kindBy_59 : decode cX12_kindBy 59 = .ok (.ireturn, 1) := by decide +kernel
theorem dX12_kindBy_60 : decode cX12_kindBy 60 = .ok (.iconst 4, 1) := by decide +kernel
theorem dX12_kindBy_61 : decode cX12_kindBy 61 = .ok (.ireturn, 1) := by decide +kernel
theorem dX12_kindBy_62 : decode cX12_kindBy 62 = .ok (.iconst (-1), 1) := by decide +kernel
theorem dX12_kindBy_63 : decode cX12_kindBy 63 = .ok (.ireturn, 1) := by decide +kernel
theorem dX12_at_0 : decode cX12_at 0 = .ok (.iload_n 1, 1) := by decide +kernel
theorem dX12_at_1 : decode cX12_at 1 = .ok (.aload_n 0, 1) := by decide +kernel
theorem dX12_at_2 : decode cX12_at 2 = .ok (.getfield 87, 3) := by decide +kernel
theorem dX12_at_5 : decode cX12_at 5 = .ok (.if_icmp .ge 12, 3) := by decide +kernel
theorem dX12_at_8 : decode cX12_at 8 = .ok (.aload_n 0, 1) := by decide +kernel
theorem dX12_at_9 : decode cX12_at 9 = .ok (.getfield 40, 3) := by decide +kernel
theorem dX12_at_12 : decode cX12_at 12 = .ok (.iload_n 1, 1) := by decide +kernel
theorem dX12_at_13 : decode cX12_at 13 = .ok (.baload, 1) := by decide +kernel
theorem dX12_at_14 : decode cX12_at 14 = .ok (.goto 4, 3) := by decide +kernel
theorem dX12_at_17 : decode cX12_at 17 = .ok (.iconst 0, 1) := by decide +kernel
theorem dX12_at_18 : decode cX12_at 18 = .ok (.ireturn, 1) := by decide +kernel
theorem dX12_isFigure_0 : decode cX12_isFigure 0 = .ok (.aload_n 0, 1) := by decide +kernel
theorem dX12_isFigure_1 : decode cX12_isFigure 1 = .ok (.iload_n 1, 1) := by decide +kernel
theorem dX12_isFigure_2 : decode cX12_isFigure 2 = .ok (.invokevirtual 91, 3) := by decide +kernel
theorem dX12_isFigure_5 : decode cX12_isFigure 5 = .ok (.bipush 48, 2) := by decide +kernel
theorem dX12_isFigure_7 : decode cX12_isFigure 7 = .ok (.isub, 1) := by decide +kernel
theorem dX12_isFigure_8 : decode cX12_isFigure 8 = .ok (.iload_n 2, 1) := by decide +kernel
theorem dX12_isFigure_9 : decode cX12_isFigure 9 = .ok (.bipush 9, 2) := by decide +kernel
theorem dX12_isFigure_11 : decode cX12_isFigure 11 = .ok (.invokestatic 83, 3) := by decide +kernel
theorem dX12_isFigure_14 : decode cX12_isFigure 14 = .ok (.ireturn, 1) := by decide +kernel
theorem dX12_readParty_0 : decode cX12_readParty 0 = .ok (.aload_n 0, 1) := by decide +kernel
theorem dX12_readParty_1 : decode cX12_readParty 1 = .ok (.iload_n 1, 1) := by decide +kernel
theorem dX12_readParty_2 : decode cX12_readParty 2 = .ok (.invokevirtual 91, 3) := by decide +kernel
theorem dX12_readParty_5 : decode cX12_readParty 5 = .ok (.invokestatic 95, 3) := by decide +kernel
theorem dX12_readParty_8 : decode cX12_readParty 8 = .ok (.iconst (-1), 1) := by decide +kernel
theorem dX12_readParty_9 : decode cX12_readParty 9 = .ok (.if_icmp .ne 5, 3) := by decide +kernel
theorem dX12_readParty_12 : decode cX12_readParty 12 = .ok (.iload_n 1, 1) := by decide +kernel
theorem dX12_readParty_13 : decode cX12_readParty 13 = .ok (.ireturn, 1) := by decide +kernel
theorem dX12_readParty_14 : decode cX12_readParty 14 = .ok (.aload_n 0, 1) := by decide +kernel
theorem dX12_readParty_15 : decode cX12_readParty 15 = .ok (.iload_n 1, 1) := by decide +kernel
theorem dX12_readParty_16 : decode cX12_readParty 16 = .ok (.iconst 1, 1) := by decide +kernel
theorem dX12_readParty_17 : decode cX12_readParty 17 = .ok (.iadd, 1) := by decide +kernel
theorem dX12_readParty_18 : decode cX12_readParty 18 = .ok (.iconst 1, 1) := by decide +kernel
theorem dX12_readParty_19 : decode cX12_readParty 19 = .ok (.invokevirtual 98, 3) := by decide +kernel
theorem dX12_readParty_22 : decode cX12_readParty 22 = .ok (.ifCond .ne 9, 3) := by decide +kernel
theorem dX12_readParty_25 : decode cX12_readParty 25 = .ok (.iload_n 1, 1) := by decide +kernel
theorem dX12_readParty_26 : decode cX12_readParty 26 = .ok (.iconst 1, 1) := by decide +kernel
theorem dX12_readParty_27 : decode cX12_readParty 27 = .ok (.iadd, 1) := by decide +kernel
theorem dX12_readParty_28 : decode cX12_readParty 28 = .ok (.goto 23, 3) := by decide +kernel
theorem dX12_readParty_31 : decode cX12_readParty 31 = .ok (.aload_n 0, 1) := by decide +kernel
theorem dX12_readParty_32 : decode cX12_readParty 32 = .ok (.iload_n 1, 1) := by decide +kernel
theorem dX12_readParty_33 : decode cX12_readParty 33 = .ok (.iconst 2, 1) := by decide +kernel
theorem dX12_readParty_34 : decode cX12_readParty 34 = .ok (.iadd, 1) := by decide +kernel
theorem dX12_readParty_35 : decode cX12_readParty 35 = .ok (.iconst 0, 1) := by decide +kernel
theorem dX12_readParty_36 : decode cX12_readParty 36 = .ok (.invokevirtual 98, 3) := by decide +kernel
theorem dX12_readParty_39 : decode cX12_readParty 39 = .ok (.ifCond .ne 9, 3) := by decide +kernel
theorem dX12_readParty_42 : decode cX12_readParty 42 = .ok (.iload_n 1, 1) := by decide +kernel
theorem dX12_readParty_43 : decode cX12_readParty 43 = .ok (.iconst 2, 1) := by decide +kernel
theorem dX12_readParty_44 : decode cX12_readParty 44 = .ok (.iadd, 1) := by decide +kernel
theorem dX12_readParty_45 : decode cX12_readParty 45 = .ok (.goto 6, 3) := by decide +kernel
theorem dX12_readParty_48 : decode cX12_readParty 48 = .ok (.iload_n 1, 1) := by decide +kernel
theorem dX12_readParty_49 : decode cX12_readParty 49 = .ok (.iconst 3, 1) := by decide +kernel
theorem dX12_readParty_50 : decode cX12_readParty 50 = .ok (.iadd, 1) := by decide +kernel
theorem dX12_readParty_51 : decode cX12_readParty 51 = .ok (.ireturn, 1) := by decide +kernel
theorem dX12_read_0 : decode cX12_read 0 = .ok (.aload_n 0, 1) := by decide +kernel
theorem dX12_read_1 : decode cX12_read 1 = .ok (.iconst 0, 1) := by decide +kernel
theorem dX12_read_2 : decode cX12_read 2 = .ok (.putfield 102, 3) := by decide +kernel
theorem dX12_read_5 : decode cX12_read 5 = .ok (.aload_n 0, 1) := by decide +kernel
theorem dX12_read_6 : decode cX12_read 6 = .ok (.iconst 0, 1) := by decide +kernel
theorem dX12_read_7 : decode cX12_read 7 = .ok (.putfield 106, 3) := by decide +kernel
theorem dX12_read_10 : decode cX12_read 10 = .ok (.iconst 0, 1) := by decide +kernel
theorem dX12_read_11 : decode cX12_read 11 = .ok (.istore_n 1, 1) := by decide +kernel
theorem dX12_read_12 : decode cX12_read 12 = .ok (.iload_n 1, 1) := by decide +kernel
theorem dX12_read_13 : decode cX12_read 13 = .ok (.bipush 10, 2) := by decide +kernel
theorem dX12_read_15 : decode cX12_read 15 = .ok (.if_icmp .ge 20, 3) := by decide +kernel
theorem dX12_read_18 : decode cX12_read 18 = .ok (.aload_n 0, 1) := by decide +kernel
theorem dX12_read_19 : decode cX12_read 19 = .ok (.iload_n 1, 1) := by decide +kernel
theorem dX12_read_20 : decode cX12_read 20 = .ok (.iconst 0, 1) := by decide +kernel
theorem dX12_read_21 : decode cX12_read 21 = .ok (.invokevirtual 98, 3) := by decide +kernel
theorem dX12_read_24 : decode cX12_read 24 = .ok (.ifCond .ne 5, 3) := by decide +kernel
theorem dX12_read_27 : decode cX12_read 27 = .ok (.iload_n 1, 1) := by decide +kernel
theorem dX12_read_28 : decode cX12_read 28 = .ok (.ireturn, 1) := by decide +kernel
theorem dX12_read_29 : decode cX12_read 29 = .ok (.iinc 1 1, 3) := by decide +kernel
theorem dX12_read_32 : decode cX12_read 32 = .ok (.goto (-20), 3) := by decide +kernel
theorem dX12_read_35 : decode cX12_read 35 = .ok (.aload_n 0, 1) := by decide +kernel
theorem dX12_read_36 : decode cX12_read 36 = .ok (.iload_n 1, 1) := by decide +kernel
theorem dX12_read_37 : decode cX12_read 37 = .ok (.invokevirtual 91, 3) := by decide +kernel
theorem dX12_read_40 : decode cX12_read 40 = .ok (.bipush 59, 2) := by decide +kernel
theorem dX12_read_42 : decode cX12_read 42 = .ok (.if_icmp .eq 5, 3) := by decide +kernel
theorem dX12_read_45 : decode cX12_read 45 = .ok (.iload_n 1, 1) := by decide +kernel
theorem dX12_read_46 : decode cX12_read 46 = .ok (.ireturn, 1) := by decide +kernel
theorem dX12_read_47 : decode cX12_read 47 = .ok (.iinc 1 1, 3) := by decide +kernel
theorem dX12_read_50 : decode cX12_read 50 = .ok (.aload_n 0, 1) := by decide +kernel
theorem dX12_read_51 : decode cX12_read 51 = .ok (.getfield 106, 3) := by decide +kernel
theorem dX12_read_54 : decode cX12_read 54 = .ok (.iconst 5, 1) := by decide +kernel
theorem dX12_read_55 : decode cX12_read 55 = .ok (.if_icmp .ge 81, 3) := by decide +kernel
theorem dX12_read_58 : decode cX12_read 58 = .ok (.aload_n 0, 1) := by decide +kernel
theorem dX12_read_59 : decode cX12_read 59 = .ok (.iload_n 1, 1) := by decide +kernel
theorem dX12_read_60 : decode cX12_read 60 = .ok (.invokevirtual 109, 3) := by decide +kernel
theorem dX12_read_63 : decode cX12_read 63 = .ok (.istore_n 2, 1) := by decide +kernel
theorem dX12_read_64 : decode cX12_read 64 = .ok (.iload_n 2, 1) := by decide +kernel
theorem dX12_read_65 : decode cX12_read 65 = .ok (.iload_n 1, 1) := by decide +kernel
theorem dX12_read_66 : decode cX12_read 66 = .ok (.iconst 3, 1) := by decide +kernel
theorem dX12_read_67 : decode cX12_read 67 = .ok (.iadd, 1) := by decide +kernel
theorem dX12_read_68 : decode cX12_read 68 = .ok (.if_icmp .eq 5, 3) := by decide +kernel
theorem dX12_read_71 : decode cX12_read 71 = .ok (.iload_n 2, 1) := by decide +kernel
theorem dX12_read_72 : decode cX12_read 72 = .ok (.ireturn, 1) := by decide +kernel
theorem dX12_read_73 : decode cX12_read 73 = .ok (.aload_n 0, 1) := by decide +kernel
theorem dX12_read_74 : decode cX12_read 74 = .ok (.dup, 1) := by decide +kernel
theorem dX12_read_75 : decode cX12_read 75 = .ok (.getfield 106, 3) := by decide +kernel
theorem dX12_read_78 : decode cX12_read 78 = .ok (.iconst 1, 1) := by decide +kernel
theorem dX12_read_79 : decode cX12_read 79 = .ok (.iadd, 1) := by decide +kernel
theorem dX12_read_80 : decode cX12_read 80 = .ok (.putfield 106, 3) := by decide +kernel
theorem dX12_read_83 : decode cX12_read 83 = .ok (.iload_n 2, 1) := by decide +kernel
theorem dX12_read_84 : decode cX12_read 84 = .ok (.istore_n 1, 1) := by decide +kernel
theorem dX12_read_85 : decode cX12_read 85 = .ok (.aload_n 0, 1) := by decide +kernel
theorem dX12_read_86 : decode cX12_read 86 = .ok (.iload_n 1, 1) := by decide +kernel
theorem dX12_read_87 : decode cX12_read 87 = .ok (.aload_n 0, 1) := by decide +kernel
theorem dX12_read_88 : decode cX12_read 88 = .ok (.getfield 87, 3) := by decide +kernel
theorem dX12_read_91 : decode cX12_read 91 = .ok (.if_icmp .ne 15, 3) := by decide +kernel
theorem dX12_read_94 : decode cX12_read 94 = .ok (.aload_n 0, 1) := by decide +kernel
theorem dX12_read_95 : decode cX12_read 95 = .ok (.getfield 106, 3) := by decide +kernel
theorem dX12_read_98 : decode cX12_read 98 = .ok (.iconst 1, 1) := by decide +kernel
theorem dX12_read_99 : decode cX12_read 99 = .ok (.if_icmp .le 7, 3) := by decide +kernel
theorem dX12_read_102 : decode cX12_read 102 = .ok (.iconst 1, 1) := by decide +kernel
theorem dX12_read_103 : decode cX12_read 103 = .ok (.goto 4, 3) := by decide +kernel
theorem dX12_read_106 : decode cX12_read 106 = .ok (.iconst 0, 1) := by decide +kernel
theorem dX12_read_107 : decode cX12_read 107 = .ok (.putfield 102, 3) := by decide +kernel
theorem dX12_read_110 : decode cX12_read 110 = .ok (.aload_n 0, 1) := by decide +kernel
theorem dX12_read_111 : decode cX12_read 111 = .ok (.getfield 106, 3) := by decide +kernel
theorem dX12_read_114 : decode cX12_read 114 = .ok (.iconst 5, 1) := by decide +kernel
theorem dX12_read_115 : decode cX12_read 115 = .ok (.if_icmp .eq 13, 3) := by decide +kernel
theorem dX12_read_118 : decode cX12_read 118 = .ok (.aload_n 0, 1) := by decide +kernel
theorem dX12_read_119 : decode cX12_read 119 = .ok (.iload_n 1, 1) := by decide +kernel
theorem dX12_read_120 : decode cX12_read 120 = .ok (.invokevirtual 91, 3) := by decide +kernel
theorem dX12_read_123 : decode cX12_read 123 = .ok (.bipush 44, 2) := by decide +kernel
theorem dX12_read_125 : decode cX12_read 125 = .ok (.if_icmp .eq 5, 3) := by decide +kernel
theorem dX12_read_128 : decode cX12_read 128 = .ok (.iload_n 1, 1) := by decide +kernel
theorem dX12_read_129 : decode cX12_read 129 = .ok (.ireturn, 1) := by decide +kernel
theorem dX12_read_130 : decode cX12_read 130 = .ok (.iinc 1 1, 3) := by decide +kernel
theorem dX12_read_133 : decode cX12_read 133 = .ok (.goto (-83), 3) := by decide +kernel
theorem dX12_read_136 : decode cX12_read 136 = .ok (.iload_n 1, 1) := by decide +kernel
theorem dX12_read_137 : decode cX12_read 137 = .ok (.ireturn, 1) := by decide +kernel
theorem dX12_fault_0 : decode cX12_fault 0 = .ok (.aload_n 0, 1) := by decide +kernel
theorem dX12_fault_1 : decode cX12_fault 1 = .ok (.invokevirtual 112, 3) := by decide +kernel
theorem dX12_fault_4 : decode cX12_fault 4 = .ok (.ireturn, 1) := by decide +kernel
theorem dX12_court_0 : decode cX12_court 0 = .ok (.aload_n 0, 1) := by decide +kernel
theorem dX12_court_1 : decode cX12_court 1 = .ok (.invokevirtual 112, 3) := by decide +kernel
theorem dX12_court_4 : decode cX12_court 4 = .ok (.pop, 1) := by decide +kernel
theorem dX12_court_5 : decode cX12_court 5 = .ok (.aload_n 0, 1) := by decide +kernel
theorem dX12_court_6 : decode cX12_court 6 = .ok (.getfield 102, 3) := by decide +kernel
theorem dX12_court_9 : decode cX12_court 9 = .ok (.ifCond .ne 6, 3) := by decide +kernel
theorem dX12_court_12 : decode cX12_court 12 = .ok (.bipush (-103), 2) := by decide +kernel
theorem dX12_court_14 : decode cX12_court 14 = .ok (.ireturn, 1) := by decide +kernel
theorem dX12_court_15 : decode cX12_court 15 = .ok (.iconst 0, 1) := by decide +kernel
theorem dX12_court_16 : decode cX12_court 16 = .ok (.istore_n 1, 1) := by decide +kernel
theorem dX12_court_17 : decode cX12_court 17 = .ok (.iload_n 1, 1) := by decide +kernel
theorem dX12_court_18 : decode cX12_court 18 = .ok (.bipush 10, 2) := by decide +kernel
theorem dX12_court_20 : decode cX12_court 20 = .ok (.if_icmp .ge 24, 3) := by decide +kernel
theorem dX12_court_23 : decode cX12_court 23 = .ok (.aload_n 0, 1) := by decide +kernel
theorem dX12_court_24 : decode cX12_court 24 = .ok (.getfield 7, 3) := by decide +kernel
theorem dX12_court_27 : decode cX12_court 27 = .ok (.iload_n 1, 1) := by decide +kernel
theorem dX12_court_28 : decode cX12_court 28 = .ok (.aload_n 0, 1) := by decide +kernel
theorem dX12_court_29 : decode cX12_court 29 = .ok (.getfield 40, 3) := by decide +kernel
theorem dX12_court_32 : decode cX12_court 32 = .ok (.iload_n 1, 1) := by decide +kernel
theorem dX12_court_33 : decode cX12_court 33 = .ok (.baload, 1) := by decide +kernel
theorem dX12_court_34 : decode cX12_court 34 = .ok (.bipush 48, 2) := by decide +kernel
theorem dX12_court_36 : decode cX12_court 36 = .ok (.isub, 1) := by decide +kernel
theorem dX12_court_37 : decode cX12_court 37 = .ok (.iastore, 1) := by decide +kernel
theorem dX12_court_38 : decode cX12_court 38 = .ok (.iinc 1 1, 3) := by decide +kernel
theorem dX12_court_41 : decode cX12_court 41 = .ok (.goto (-24), 3) := by decide +kernel
theorem dX12_court_44 : decode cX12_court 44 = .ok (.aload_n 0, 1) := by decide +kernel
theorem dX12_court_45 : decode cX12_court 45 = .ok (.aload_n 0, 1) := by decide +kernel
theorem dX12_court_46 : decode cX12_court 46 = .ok (.getfield 106, 3) := by decide +kernel
theorem dX12_court_49 : decode cX12_court 49 = .ok (.putfield 116, 3) := by decide +kernel
theorem dX12_court_52 : decode cX12_court 52 = .ok (.iconst 0, 1) := by decide +kernel
theorem dX12_court_53 : decode cX12_court 53 = .ok (.istore_n 1, 1) := by decide +kernel
theorem dX12_court_54 : decode cX12_court 54 = .ok (.iload_n 1, 1) := by decide +kernel
theorem dX12_court_55 : decode cX12_court 55 = .ok (.aload_n 0, 1) := by decide +kernel
theorem dX12_court_56 : decode cX12_court 56 = .ok (.getfield 116, 3) := by decide +kernel
theorem dX12_court_59 : decode cX12_court 59 = .ok (.if_icmp .ge 69, 3) := by decide +kernel
theorem dX12_court_62 : decode cX12_court 62 = .ok (.aload_n 0, 1) := by decide +kernel
theorem dX12_court_63 : decode cX12_court 63 = .ok (.getfield 13, 3) := by decide +kernel
theorem dX12_court_66 : decode cX12_court 66 = .ok (.iload_n 1, 1) := by decide +kernel
theorem dX12_court_67 : decode cX12_court 67 = .ok (.aload_n 0, 1) := by decide +kernel
theorem dX12_court_68 : decode cX12_court 68 = .ok (.getfield 40, 3) := by decide +kernel
theorem dX12_court_71 : decode cX12_court 71 = .ok (.bipush 11, 2) := by decide +kernel
theorem dX12_court_73 : decode cX12_court 73 = .ok (.iconst 4, 1) := by decide +kernel
theorem dX12_court_74 : decode cX12_court 74 = .ok (.iload_n 1, 1) := by decide +kernel
theorem dX12_court_75 : decode cX12_court 75 = .ok (.imul, 1) := by decide +kernel
theorem dX12_court_76 : decode cX12_court 76 = .ok (.iadd, 1) := by decide +kernel
theorem dX12_court_77 : decode cX12_court 77 = .ok (.baload, 1) := by decide +kernel
theorem dX12_court_78 : decode cX12_court 78 = .ok (.invokestatic 95, 3) := by decide +kernel
theorem dX12_court_81 : decode cX12_court 81 = .ok (.iastore, 1) := by decide +kernel
theorem dX12_court_82 : decode cX12_court 82 = .ok (.aload_n 0, 1) := by decide +kernel
theorem dX12_court_83 : decode cX12_court 83 = .ok (.getfield 16, 3) := by decide +kernel
theorem dX12_court_86 : decode cX12_court 86 = .ok (.iload_n 1, 1) := by decide +kernel
theorem dX12_court_87 : decode cX12_court 87 = .ok (.aload_n 0, 1) := by decide +kernel
theorem dX12_court_88 : decode cX12_court 88 = .ok (.getfield 40, 3) := by decide +kernel
theorem dX12_court_91 : decode cX12_court 91 = .ok (.bipush 12, 2) := by decide +kernel
theorem dX12_court_93 : decode cX12_court 93 = .ok (.iconst 4, 1) := by decide +kernel
theorem dX12_court_94 : decode cX12_court 94 = .ok (.iload_n 1, 1) := by decide +kernel
theorem dX12_court_95 : decode cX12_court 95 = .ok (.imul, 1) := by decide +kernel
theorem dX12_court_96 : decode cX12_court 96 = .ok (.iadd, 1) := by decide +kernel
theorem dX12_court_97 : decode cX12_court 97 = .ok (.baload, 1) := by decide +kernel
theorem dX12_court_98 : decode cX12_court 98 = .ok (.bipush 48, 2) := by decide +kernel
theorem dX12_court_100 : decode cX12_court 100 = .ok (.isub, 1) := by decide +kernel
theorem dX12_court_101 : decode cX12_court 101 = .ok (.iastore, 1) := by decide +kernel
theorem dX12_court_102 : decode cX12_court 102 = .ok (.aload_n 0, 1) := by decide +kernel
theorem dX12_court_103 : decode cX12_court 103 = .ok (.getfield 19, 3) := by decide +kernel
theorem dX12_court_106 : decode cX12_court 106 = .ok (.iload_n 1, 1) := by decide +kernel
theorem dX12_court_107 : decode cX12_court 107 = .ok (.aload_n 0, 1) := by decide +kernel
theorem dX12_court_108 : decode cX12_court 108 = .ok (.getfield 40, 3) := by decide +kernel
theorem dX12_court_111 : decode cX12_court 111 = .ok (.bipush 13, 2) := by decide +kernel
theorem dX12_court_113 : decode cX12_court 113 = .ok (.iconst 4, 1) := by decide +kernel
theorem dX12_court_114 : decode cX12_court 114 = .ok (.iload_n 1, 1) := by decide +kernel
theorem dX12_court_115 : decode cX12_court 115 = .ok (.imul, 1) := by decide +kernel
theorem dX12_court_116 : decode cX12_court 116 = .ok (.iadd, 1) := by decide +kernel
theorem dX12_court_117 : decode cX12_court 117 = .ok (.baload, 1) := by decide +kernel
theorem dX12_court_118 : decode cX12_court 118 = .ok (.bipush 48, 2) := by decide +kernel
theorem dX12_court_120 : decode cX12_court 120 = .ok (.isub, 1) := by decide +kernel
theorem dX12_court_121 : decode cX12_court 121 = .ok (.iastore, 1) := by decide +kernel
theorem dX12_court_122 : decode cX12_court 122 = .ok (.iinc 1 1, 3) := by decide +kernel
theorem dX12_court_125 : decode cX12_court 125 = .ok (.goto (-71), 3) := by decide +kernel
theorem dX12_court_128 : decode cX12_court 128 = .ok (.aload_n 0, 1) := by decide +kernel
theorem dX12_court_129 : decode cX12_court 129 = .ok (.iconst 0, 1) := by decide +kernel
theorem dX12_court_130 : decode cX12_court 130 = .ok (.putfield 119, 3) := by decide +kernel
theorem dX12_court_133 : decode cX12_court 133 = .ok (.aload_n 0, 1) := by decide +kernel
theorem dX12_court_134 : decode cX12_court 134 = .ok (.iconst 0, 1) := by decide +kernel
theorem dX12_court_135 : decode cX12_court 135 = .ok (.putfield 122, 3) := by decide +kernel
theorem dX12_court_138 : decode cX12_court 138 = .ok (.aload_n 0, 1) := by decide +kernel
theorem dX12_court_139 : decode cX12_court 139 = .ok (.iconst 0, 1) := by decide +kernel
theorem dX12_court_140 : decode cX12_court 140 = .ok (.putfield 125, 3) := by decide +kernel
theorem dX12_court_143 : decode cX12_court 143 = .ok (.aload_n 0, 1) := by decide +kernel
theorem dX12_court_144 : decode cX12_court 144 = .ok (.dup, 1) := by decide +kernel
theorem dX12_court_145 : decode cX12_court 145 = .ok (.getfield 128, 3) := by decide +kernel
theorem dX12_court_148 : decode cX12_court 148 = .ok (.iconst 1, 1) := by decide +kernel
theorem dX12_court_149 : decode cX12_court 149 = .ok (.iadd, 1) := by decide +kernel
theorem dX12_court_150 : decode cX12_court 150 = .ok (.putfield 128, 3) := by decide +kernel
theorem dX12_court_153 : decode cX12_court 153 = .ok (.aload_n 0, 1) := by decide +kernel
theorem dX12_court_154 : decode cX12_court 154 = .ok (.iconst 0, 1) := by decide +kernel
theorem dX12_court_155 : decode cX12_court 155 = .ok (.putfield 131, 3) := by decide +kernel
theorem dX12_court_158 : decode cX12_court 158 = .ok (.aload_n 0, 1) := by decide +kernel
theorem dX12_court_159 : decode cX12_court 159 = .ok (.iconst 0, 1) := by decide +kernel
theorem dX12_court_160 : decode cX12_court 160 = .ok (.putfield 87, 3) := by decide +kernel
theorem dX12_court_163 : decode cX12_court 163 = .ok (.aload_n 0, 1) := by decide +kernel
theorem dX12_court_164 : decode cX12_court 164 = .ok (.getfield 116, 3) := by decide +kernel
theorem dX12_court_167 : decode cX12_court 167 = .ok (.ireturn, 1) := by decide +kernel
theorem dX12_isParty_0 : decode cX12_isParty 0 = .ok (.iload_n 1, 1) := by decide +kernel
theorem dX12_isParty_1 : decode cX12_isParty 1 = .ok (.iconst 0, 1) := by decide +kernel
theorem dX12_isParty_2 : decode cX12_isParty 2 = .ok (.aload_n 0, 1) := by decide +kernel
theorem dX12_isParty_3 : decode cX12_isParty 3 = .ok (.getfield 116, 3) := by decide +kernel
theorem dX12_isParty_6 : decode cX12_isParty 6 = .ok (.iconst 1, 1) := by decide +kernel
theorem dX12_isParty_7 : decode cX12_isParty 7 = .ok (.isub, 1) := by decide +kernel
theorem dX12_isParty_8 : decode cX12_isParty 8 = .ok (.invokestatic 83, 3) := by decide +kernel
theorem dX12_isParty_11 : decode cX12_isParty 11 = .ok (.ireturn, 1) := by decide +kernel
theorem dX12_areTwo_0 : decode cX12_areTwo 0 = .ok (.aload_n 0, 1) := by decide +kernel
theorem dX12_areTwo_1 : decode cX12_areTwo 1 = .ok (.iload_n 1, 1) := by decide +kernel
theorem dX12_areTwo_2 : decode cX12_areTwo 2 = .ok (.invokevirtual 134, 3) := by decide +kernel
theorem dX12_areTwo_5 : decode cX12_areTwo 5 = .ok (.ifCond .eq 20, 3) := by decide +kernel
theorem dX12_areTwo_8 : decode cX12_areTwo 8 = .ok (.aload_n 0, 1) := by decide +kernel
theorem dX12_areTwo_9 : decode cX12_areTwo 9 = .ok (.iload_n 2, 1) := by decide +kernel
theorem dX12_areTwo_10 : decode cX12_areTwo 10 = .ok (.invokevirtual 134, 3) := by decide +kernel
theorem dX12_areTwo_13 : decode cX12_areTwo 13 = .ok (.ifCond .eq 12, 3) := by decide +kernel
theorem dX12_areTwo_16 : decode cX12_areTwo 16 = .ok (.iload_n 1, 1) := by decide +kernel
theorem dX12_areTwo_17 : decode cX12_areTwo 17 = .ok (.iload_n 2, 1) := by decide +kernel
theorem dX12_areTwo_18 : decode cX12_areTwo 18 = .ok (.if_icmp .eq 7, 3) := by decide +kernel
theorem dX12_areTwo_21 : decode cX12_areTwo 21 = .ok (.iconst 1, 1) := by decide +kernel
theorem dX12_areTwo_22 : decode cX12_areTwo 22 = .ok (.goto 4, 3) := by decide +kernel
theorem dX12_areTwo_25 : decode cX12_areTwo 25 = .ok (.iconst 0, 1) := by decide +kernel
theorem dX12_areTwo_26 : decode cX12_areTwo 26 = .ok (.ireturn, 1) := by decide +kernel
theorem dX12_isTile_0 : decode cX12_isTile 0 = .ok (.aload_n 0, 1) := by decide +kernel
theorem dX12_isTile_1 : decode cX12_isTile 1 = .ok (.getfield 116, 3) := by decide +kernel
theorem dX12_isTile_4 : decode cX12_isTile 4 = .ok (.ifCond .le 17, 3) := by decide +kernel
theorem dX12_isTile_7 : decode cX12_isTile 7 = .ok (.iload_n 1, 1) := by decide +kernel
theorem dX12_isTile_8 : decode cX12_isTile 8 = .ok (.iconst 0, 1) := by decide +kernel
theorem dX12_isTile_9 : decode cX12_isTile 9 = .ok (.bipush 9, 2) := by decide +kernel
theorem dX12_isTile_11 : decode cX12_isTile 11 = .ok (.invokestatic 83, 3) := by decide +kernel
theorem dX12_isTile_14 : decode cX12_isTile 14 = .ok (.ifCond .eq 7, 3) := by decide +kernel
theorem dX12_isTile_17 : decode cX12_isTile 17 = .ok (.iconst 1, 1) := by decide +kernel
theorem dX12_isTile_18 : decode cX12_isTile 18 = .ok (.goto 4, 3) := by decide +kernel
theorem dX12_isTile_21 : decode cX12_isTile 21 = .ok (.iconst 0, 1) := by decide +kernel
theorem dX12_isTile_22 : decode cX12_isTile 22 = .ok (.ireturn, 1) := by decide +kernel
theorem dX12_longBy_0 : decode cX12_longBy 0 = .ok (.aload_n 0, 1) := by decide +kernel
theorem dX12_longBy_1 : decode cX12_longBy 1 = .ok (.getfield 16, 3) := by decide +kernel
theorem dX12_longBy_4 : decode cX12_longBy 4 = .ok (.iload_n 1, 1) := by decide +kernel
theorem dX12_longBy_5 : decode cX12_longBy 5 = .ok (.iaload, 1) := by decide +kernel
theorem dX12_longBy_6 : decode cX12_longBy 6 = .ok (.aload_n 0, 1) := by decide +kernel
theorem dX12_longBy_7 : decode cX12_longBy 7 = .ok (.getfield 13, 3) := by decide +kernel
theorem dX12_longBy_10 : decode cX12_longBy 10 = .ok (.iload_n 1, 1) := by decide +kernel
theorem dX12_longBy_11 : decode cX12_longBy 11 = .ok (.iaload, 1) := by decide +kernel
theorem dX12_longBy_12 : decode cX12_longBy 12 = .ok (.iconst 1, 1) := by decide +kernel
theorem dX12_longBy_13 : decode cX12_longBy 13 = .ok (.if_icmp .ne 7, 3) := by decide +kernel
theorem dX12_longBy_16 : decode cX12_longBy 16 = .ok (.iconst 2, 1) := by decide +kernel
theorem dX12_longBy_17 : decode cX12_longBy 17 = .ok (.goto 18, 3) := by decide +kernel
theorem dX12_longBy_20 : decode cX12_longBy 20 = .ok (.aload_n 0, 1) := by decide +kernel
theorem dX12_longBy_21 : decode cX12_longBy 21 = .ok (.getfield 13, 3) := by decide +kernel
theorem dX12_longBy_24 : decode cX12_longBy 24 = .ok (.iload_n 1, 1) := by decide +kernel
theorem dX12_longBy_25 : decode cX12_longBy 25 = .ok (.iaload, 1) := by decide +kernel
theorem dX12_longBy_26 : decode cX12_longBy 26 = .ok (.iconst 4, 1) := by decide +kernel
theorem dX12_longBy_27 : decode cX12_longBy 27 = .ok (.if_icmp .ne 7, 3) := by decide +kernel
theorem dX12_longBy_30 : decode cX12_longBy 30 = .ok (.iconst 4, 1) := by decide +kernel
theorem dX12_longBy_31 : decode cX12_longBy 31 = .ok (.goto 4, 3) := by decide +kernel
theorem dX12_longBy_34 : decode cX12_longBy 34 = .ok (.iconst 0, 1) := by decide +kernel
theorem dX12_longBy_35 : decode cX12_longBy 35 = .ok (.iadd, 1) := by decide +kernel
theorem dX12_longBy_36 : decode cX12_longBy 36 = .ok (.istore_n 3, 1) := by decide +kernel
theorem dX12_longBy_37 : decode cX12_longBy 37 = .ok (.iload_n 3, 1) := by decide +kernel
theorem dX12_longBy_38 : decode cX12_longBy 38 = .ok (.iload_n 2, 1) := by decide +kernel
theorem dX12_longBy_39 : decode cX12_longBy 39 = .ok (.bipush 6, 2) := by decide +kernel
theorem dX12_longBy_41 : decode cX12_longBy 41 = .ok (.if_icmp .ge 10, 3) := by decide +kernel
theorem dX12_longBy_44 : decode cX12_longBy 44 = .ok (.bipush 6, 2) := by decide +kernel
theorem dX12_longBy_46 : decode cX12_longBy 46 = .ok (.iload_n 2, 1) := by decide +kernel
theorem dX12_longBy_47 : decode cX12_longBy 47 = .ok (.isub, 1) := by decide +kernel
theorem dX12_longBy_48 : decode cX12_longBy 48 = .ok (.goto 7, 3) := by decide +kernel
theorem dX12_longBy_51 : decode cX12_longBy 51 = .ok (.iload_n 2, 1) := by decide +kernel
theorem dX12_longBy_52 : decode cX12_longBy 52 = .ok (.bipush 6, 2) := by decide +kernel
theorem dX12_longBy_54 : decode cX12_longBy 54 = .ok (.isub, 1) := by decide +kernel
theorem dX12_longBy_55 : decode cX12_longBy 55 = .ok (.imul, 1) := by decide +kernel
theorem dX12_longBy_56 : decode cX12_longBy 56 = .ok (.iconst 3, 1) := by decide +kernel
theorem dX12_longBy_57 : decode cX12_longBy 57 = .ok (.idiv, 1) := by decide +kernel
theorem dX12_longBy_58 : decode cX12_longBy 58 = .ok (.ireturn, 1) := by decide +kernel
theorem dX12_west_0 : decode cX12_west 0 = .ok (.iload_n 1, 1) := by decide +kernel
theorem dX12_west_1 : decode cX12_west 1 = .ok (.iload_n 0, 1) := by decide +kernel
theorem dX12_west_2 : decode cX12_west 2 = .ok (.if_icmp .le 7, 3) := by decide +kernel
theorem dX12_west_5 : decode cX12_west 5 = .ok (.iconst 0, 1) := by decide +kernel
theorem dX12_west_6 : decode cX12_west 6 = .ok (.goto 6, 3) := by decide +kernel
theorem dX12_west_9 : decode cX12_west 9 = .ok (.iload_n 0, 1) := by decide +kernel
theorem dX12_west_10 : decode cX12_west 10 = .ok (.iload_n 1, 1) := by decide +kernel
theorem dX12_west_11 : decode cX12_west 11 = .ok (.isub, 1) := by decide +kernel
theorem dX12_west_12 : decode cX12_west 12 = .ok (.istore_n 2, 1) := by decide +kernel
theorem dX12_west_13 : decode cX12_west 13 = .ok (.iconst 1, 1) := by decide +kernel
theorem dX12_west_14 : decode cX12_west 14 = .ok (.iload_n 0, 1) := by decide +kernel
theorem dX12_west_15 : decode cX12_west 15 = .ok (.ishl, 1) := by decide +kernel
theorem dX12_west_16 : decode cX12_west 16 = .ok (.iconst 1, 1) := by decide +kernel
theorem dX12_west_17 : decode cX12_west 17 = .ok (.iload_n 2, 1) := by decide +kernel
theorem dX12_west_18 : decode cX12_west 18 = .ok (.ishl, 1) := by decide +kernel
theorem dX12_west_19 : decode cX12_west 19 = .ok (.isub, 1) := by decide +kernel
theorem dX12_west_20 : decode cX12_west 20 = .ok (.ireturn, 1) := by decide +kernel
theorem dX12_east_0 : decode cX12_east 0 = .ok (.iload_n 1, 1) := by decide +kernel
theorem dX12_east_1 : decode cX12_east 1 = .ok (.bipush 9, 2) := by decide +kernel
theorem dX12_east_3 : decode cX12_east 3 = .ok (.iload_n 0, 1) := by decide +kernel
theorem dX12_east_4 : decode cX12_east 4 = .ok (.isub, 1) := by decide +kernel
theorem dX12_east_5 : decode cX12_east 5 = .ok (.if_icmp .le 8, 3) := by decide +kernel
theorem dX12_east_8 : decode cX12_east 8 = .ok (.bipush 10, 2) := by decide +kernel
theorem dX12_east_10 : decode cX12_east 10 = .ok (.goto 8, 3) := by decide +kernel
theorem dX12_east_13 : decode cX12_east 13 = .ok (.iload_n 0, 1) := by decide +kernel
theorem dX12_east_14 : decode cX12_east 14 = .ok (.iconst 1, 1) := by decide +kernel
theorem dX12_east_15 : decode cX12_east 15 = .ok (.iadd, 1) := by decide +kernel
theorem dX12_east_16 : decode cX12_east 16 = .ok (.iload_n 1, 1) := by decide +kernel
theorem dX12_east_17 : decode cX12_east 17 = .ok (.iadd, 1) := by decide +kernel
theorem dX12_east_18 : decode cX12_east 18 = .ok (.istore_n 2, 1) := by decide +kernel
theorem dX12_east_19 : decode cX12_east 19 = .ok (.iconst 1, 1) := by decide +kernel
theorem dX12_east_20 : decode cX12_east 20 = .ok (.iload_n 2, 1) := by decide +kernel
theorem dX12_east_21 : decode cX12_east 21 = .ok (.ishl, 1) := by decide +kernel
theorem dX12_east_22 : decode cX12_east 22 = .ok (.iconst 2, 1) := by decide +kernel
theorem dX12_east_23 : decode cX12_east 23 = .ok (.iload_n 0, 1) := by decide +kernel
theorem dX12_east_24 : decode cX12_east 24 = .ok (.ishl, 1) := by decide +kernel
theorem dX12_east_25 : decode cX12_east 25 = .ok (.isub, 1) := by decide +kernel
theorem dX12_east_26 : decode cX12_east 26 = .ok (.ireturn, 1) := by decide +kernel
theorem dX12_lastOf_0 : decode cX12_lastOf 0 = .ok (.iload_n 2, 1) := by decide +kernel
theorem dX12_lastOf_1 : decode cX12_lastOf 1 = .ok (.ifCond .eq 9, 3) := by decide +kernel
theorem dX12_lastOf_4 : decode cX12_lastOf 4 = .ok (.iload_n 0, 1) := by decide +kernel
theorem dX12_lastOf_5 : decode cX12_lastOf 5 = .ok (.iload_n 1, 1) := by decide +kernel
theorem dX12_lastOf_6 : decode cX12_lastOf 6 = .ok (.isub, 1) := by decide +kernel
theorem dX12_lastOf_7 : decode cX12_lastOf 7 = .ok (.goto 6, 3) := by decide +kernel
theorem dX12_lastOf_10 : decode cX12_lastOf 10 = .ok (.iload_n 0, 1) := by decide +kernel
theorem dX12_lastOf_11 : decode cX12_lastOf 11 = .ok (.iload_n 1, 1) := by decide +kernel
theorem dX12_lastOf_12 : decode cX12_lastOf 12 = .ok (.iadd, 1) := by decide +kernel
theorem dX12_lastOf_13 : decode cX12_lastOf 13 = .ok (.istore_n 3, 1) := by decide +kernel
theorem dX12_lastOf_14 : decode cX12_lastOf 14 = .ok (.iload_n 1, 1) := by decide +kernel
theorem dX12_lastOf_15 : decode cX12_lastOf 15 = .ok (.ifCond .le 19, 3) := by decide +kernel
theorem dX12_lastOf_18 : decode cX12_lastOf 18 = .ok (.iload_n 3, 1) := by decide +kernel
theorem dX12_lastOf_19 : decode cX12_lastOf 19 = .ok (.iconst 0, 1) := by decide +kernel
theorem dX12_lastOf_20 : decode cX12_lastOf 20 = .ok (.bipush 9, 2) := by decide +kernel
theorem dX12_lastOf_22 : decode cX12_lastOf 22 = .ok (.invokestatic 83, 3) := by decide +kernel
theorem dX12_lastOf_25 : decode cX12_lastOf 25 = .ok (.ifCond .eq 9, 3) := by decide +kernel
theorem dX12_lastOf_28 : decode cX12_lastOf 28 = .ok (.iconst 1, 1) := by decide +kernel
theorem dX12_lastOf_29 : decode cX12_lastOf 29 = .ok (.iload_n 3, 1) := by decide +kernel
theorem dX12_lastOf_30 : decode cX12_lastOf 30 = .ok (.ishl, 1) := by decide +kernel
theorem dX12_lastOf_31 : decode cX12_lastOf 31 = .ok (.goto 4, 3) := by decide +kernel
theorem dX12_lastOf_34 : decode cX12_lastOf 34 = .ok (.iconst 0, 1) := by decide +kernel
theorem dX12_lastOf_35 : decode cX12_lastOf 35 = .ok (.ireturn, 1) := by decide +kernel
theorem dX12_coversAt_0 : decode cX12_coversAt 0 = .ok (.aload_n 0, 1) := by decide +kernel
theorem dX12_coversAt_1 : decode cX12_coversAt 1 = .ok (.iload_n 1, 1) := by decide +kernel
theorem dX12_coversAt_2 : decode cX12_coversAt 2 = .ok (.iload_n 2, 1) := by decide +kernel
theorem dX12_coversAt_3 : decode cX12_coversAt 3 = .ok (.invokevirtual 138, 3) := by decide +kernel
theorem dX12_coversAt_6 : decode cX12_coversAt 6 = .ok (.istore 4, 2) := by decide +kernel
theorem dX12_coversAt_8 : decode cX12_coversAt 8 = .ok (.iload_n 2, 1) := by decide +kernel
theorem dX12_coversAt_9 : decode cX12_coversAt 9 = .ok (.bipush 6, 2) := by decide +kernel
theorem dX12_coversAt_11 : decode cX12_coversAt 11 = .ok (.if_icmp .ge 7, 3) := by decide +kernel
theorem dX12_coversAt_14 : decode cX12_coversAt 14 = .ok (.iconst 1, 1) := by decide +kernel
theorem dX12_coversAt_15 : decode cX12_coversAt 15 = .ok (.goto 4, 3) := by decide +kernel
theorem dX12_coversAt_18 : decode cX12_coversAt 18 = .ok (.iconst 0, 1) := by decide +kernel
theorem dX12_coversAt_19 : decode cX12_coversAt 19 = .ok (.istore 5, 2) := by decide +kernel
theorem dX12_coversAt_21 : decode cX12_coversAt 21 = .ok (.aload_n 0, 1) := by decide +kernel
theorem dX12_coversAt_22 : decode cX12_coversAt 22 = .ok (.getfield 13, 3) := by decide +kernel
theorem dX12_coversAt_25 : decode cX12_coversAt 25 = .ok (.iload_n 1, 1) := by decide +kernel
theorem dX12_coversAt_26 : decode cX12_coversAt 26 = .ok (.iaload, 1) := by decide +kernel
theorem dX12_coversAt_27 : decode cX12_coversAt 27 = .ok (.lookupswitch 48 #[(2, 25), (3, 34)], 25) := by decide +kernel
theorem dX12_coversAt_52 : decode cX12_coversAt 52 = .ok (.iload_n 3, 1) := by decide +kernel
theorem dX12_coversAt_53 : decode cX12_coversAt 53 = .ok (.iload 4, 2) := by decide +kernel
theorem dX12_coversAt_55 : decode cX12_coversAt 55 = .ok (.iload 5, 2) := by decide +kernel
theorem dX12_coversAt_57 : decode cX12_coversAt 57 = .ok (.invokestatic 142, 3) := by decide +kernel
theorem dX12_coversAt_60 : decode cX12_coversAt 60 = .ok (.ireturn, 1) := by decide +kernel
theorem dX12_coversAt_61 : decode cX12_coversAt 61 = .ok (.iload_n 3, 1) := by decide +kernel
theorem dX12_coversAt_62 : decode cX12_coversAt 62 = .ok (.iload 4, 2) := by decide +kernel
theorem dX12_coversAt_64 : decode cX12_coversAt 64 = .ok (.invokestatic 146, 3) := by decide +kernel
theorem dX12_coversAt_67 : decode cX12_coversAt 67 = .ok (.iload_n 3, 1) := by decide +kernel
theorem dX12_coversAt_68 : decode cX12_coversAt 68 = .ok (.iload 4, 2) := by decide +kernel
theorem dX12_coversAt_70 : decode cX12_coversAt 70 = .ok (.invokestatic 149, 3) := by decide +kernel
theorem dX12_coversAt_73 : decode cX12_coversAt 73 = .ok (.ior, 1) := by decide +kernel
theorem dX12_coversAt_74 : decode cX12_coversAt 74 = .ok (.ireturn, 1) := by decide +kernel
theorem dX12_coversAt_75 : decode cX12_coversAt 75 = .ok (.iload 5, 2) := by decide +kernel
theorem dX12_coversAt_77 : decode cX12_coversAt 77 = .ok (.ifCond .eq 12, 3) := by decide +kernel
theorem dX12_coversAt_80 : decode cX12_coversAt 80 = .ok (.iload_n 3, 1) := by decide +kernel
theorem dX12_coversAt_81 : decode cX12_coversAt 81 = .ok (.iload 4, 2) := by decide +kernel
theorem dX12_coversAt_83 : decode cX12_coversAt 83 = .ok (.invokestatic 146, 3) := by decide +kernel
theorem dX12_coversAt_86 : decode cX12_coversAt 86 = .ok (.goto 9, 3) := by decide +kernel
theorem dX12_coversAt_89 : decode cX12_coversAt 89 = .ok (.iload_n 3, 1) := by decide +kernel
theorem dX12_coversAt_90 : decode cX12_coversAt 90 = .ok (.iload 4, 2) := by decide +kernel
theorem dX12_coversAt_92 : decode cX12_coversAt 92 = .ok (.invokestatic 149, 3) := by decide +kernel
theorem dX12_coversAt_95 : decode cX12_coversAt 95 = .ok (.ireturn, 1) := by decide +kernel
theorem dX12_coversIn_0 : decode cX12_coversIn 0 = .ok (.aload_n 0, 1) := by decide +kernel
theorem dX12_coversIn_1 : decode cX12_coversIn 1 = .ok (.iload_n 1, 1) := by decide +kernel
theorem dX12_coversIn_2 : decode cX12_coversIn 2 = .ok (.iload_n 2, 1) := by decide +kernel
theorem dX12_coversIn_3 : decode cX12_coversIn 3 = .ok (.aload_n 0, 1) := by decide +kernel
theorem dX12_coversIn_4 : decode cX12_coversIn 4 = .ok (.getfield 19, 3) := by decide +kernel
theorem dX12_coversIn_7 : decode cX12_coversIn 7 = .ok (.iload_n 1, 1) := by decide +kernel
theorem dX12_coversIn_8 : decode cX12_coversIn 8 = .ok (.iaload, 1) := by decide +kernel
theorem dX12_coversIn_9 : decode cX12_coversIn 9 = .ok (.invokevirtual 152, 3) := by decide +kernel
theorem dX12_coversIn_12 : decode cX12_coversIn 12 = .ok (.ireturn, 1) := by decide +kernel
theorem dX12_worthIn_0 : decode cX12_worthIn 0 = .ok (.iconst 0, 1) := by decide +kernel
theorem dX12_worthIn_1 : decode cX12_worthIn 1 = .ok (.istore_n 2, 1) := by decide +kernel
theorem dX12_worthIn_2 : decode cX12_worthIn 2 = .ok (.iconst 0, 1) := by decide +kernel
theorem dX12_worthIn_3 : decode cX12_worthIn 3 = .ok (.istore_n 3, 1) := by decide +kernel
theorem dX12_worthIn_4 : decode cX12_worthIn 4 = .ok (.iload_n 3, 1) := by decide +kernel
theorem dX12_worthIn_5 : decode cX12_worthIn 5 = .ok (.bipush 10, 2) := by decide +kernel
theorem dX12_worthIn_7 : decode cX12_worthIn 7 = .ok (.if_icmp .ge 30, 3) := by decide +kernel
theorem dX12_worthIn_10 : decode cX12_worthIn 10 = .ok (.iload_n 2, 1) := by decide +kernel
theorem dX12_worthIn_11 : decode cX12_worthIn 11 = .ok (.iload_n 1, 1) := by decide +kernel
theorem dX12_worthIn_12 : decode cX12_worthIn 12 = .ok (.iload_n 3, 1) := by decide +kernel
theorem dX12_worthIn_13 : decode cX12_worthIn 13 = .ok (.invokestatic 156, 3) := by decide +kernel
theorem dX12_worthIn_16 : decode cX12_worthIn 16 = .ok (.ifCond .eq 12, 3) := by decide +kernel
theorem dX12_worthIn_19 : decode cX12_worthIn 19 = .ok (.aload_n 0, 1) := by decide +kernel
theorem dX12_worthIn_20 : decode cX12_worthIn 20 = .ok (.getfield 7, 3) := by decide +kernel
theorem dX12_worthIn_23 : decode cX12_worthIn 23 = .ok (.iload_n 3, 1) := by decide +kernel
theorem dX12_worthIn_24 : decode cX12_worthIn 24 = .ok (.iaload, 1) := by decide +kernel
theorem dX12_worthIn_25 : decode cX12_worthIn 25 = .ok (.goto 4, 3) := by decide +kernel
theorem dX12_worthIn_28 : decode cX12_worthIn 28 = .ok (.iconst 0, 1) := by decide +kernel
theorem dX12_worthIn_29 : decode cX12_worthIn 29 = .ok (.iadd, 1) := by decide +kernel
theorem dX12_worthIn_30 : decode cX12_worthIn 30 = .ok (.istore_n 2, 1) := by decide +kernel
theorem dX12_worthIn_31 : decode cX12_worthIn 31 = .ok (.iinc 3 1, 3) := by decide +kernel
theorem dX12_worthIn_34 : decode cX12_worthIn 34 = .ok (.goto (-30), 3) := by decide +kernel
theorem dX12_worthIn_37 : decode cX12_worthIn 37 = .ok (.iload_n 2, 1) := by decide +kernel
theorem dX12_worthIn_38 : decode cX12_worthIn 38 = .ok (.ireturn, 1) := by decide +kernel
theorem dX12_foundBy_0 : decode cX12_foundBy 0 = .ok (.aload_n 0, 1) := by decide +kernel
theorem dX12_foundBy_1 : decode cX12_foundBy 1 = .ok (.iload_n 1, 1) := by decide +kernel
theorem dX12_foundBy_2 : decode cX12_foundBy 2 = .ok (.iload_n 2, 1) := by decide +kernel
theorem dX12_foundBy_3 : decode cX12_foundBy 3 = .ok (.iconst (-1), 1) := by decide +kernel
theorem dX12_foundBy_4 : decode cX12_foundBy 4 = .ok (.ixor, 1) := by decide +kernel
theorem dX12_foundBy_5 : decode cX12_foundBy 5 = .ok (.iand, 1) := by decide +kernel
theorem dX12_foundBy_6 : decode cX12_foundBy 6 = .ok (.invokevirtual 159, 3) := by decide +kernel
theorem dX12_foundBy_9 : decode cX12_foundBy 9 = .ok (.aload_n 0, 1) := by decide +kernel
theorem dX12_foundBy_10 : decode cX12_foundBy 10 = .ok (.iload_n 2, 1) := by decide +kernel
theorem dX12_foundBy_11 : decode cX12_foundBy 11 = .ok (.iload_n 1, 1) := by decide +kernel
theorem dX12_foundBy_12 : decode cX12_foundBy 12 = .ok (.iconst (-1), 1) := by decide +kernel
theorem dX12_foundBy_13 : decode cX12_foundBy 13 = .ok (.ixor, 1) := by decide +kernel
theorem dX12_foundBy_14 : decode cX12_foundBy 14 = .ok (.iand, 1) := by decide +kernel
theorem dX12_foundBy_15 : decode cX12_foundBy 15 = .ok (.invokevirtual 159, 3) := by decide +kernel
theorem dX12_foundBy_18 : decode cX12_foundBy 18 = .ok (.isub, 1) := by decide +kernel
theorem dX12_foundBy_19 : decode cX12_foundBy 19 = .ok (.ireturn, 1) := by decide +kernel
theorem dX12_foundIn_0 : decode cX12_foundIn 0 = .ok (.aload_n 0, 1) := by decide +kernel
theorem dX12_foundIn_1 : decode cX12_foundIn 1 = .ok (.aload_n 0, 1) := by decide +kernel
theorem dX12_foundIn_2 : decode cX12_foundIn 2 = .ok (.iload_n 1, 1) := by decide +kernel
theorem dX12_foundIn_3 : decode cX12_foundIn 3 = .ok (.iload_n 3, 1) := by decide +kernel
theorem dX12_foundIn_4 : decode cX12_foundIn 4 = .ok (.invokevirtual 162, 3) := by decide +kernel
theorem dX12_foundIn_7 : decode cX12_foundIn 7 = .ok (.aload_n 0, 1) := by decide +kernel
theorem dX12_foundIn_8 : decode cX12_foundIn 8 = .ok (.iload_n 2, 1) := by decide +kernel
theorem dX12_foundIn_9 : decode cX12_foundIn 9 = .ok (.iload_n 3, 1) := by decide +kernel
theorem dX12_foundIn_10 : decode cX12_foundIn 10 = .ok (.invokevirtual 162, 3) := by decide +kernel
theorem dX12_foundIn_13 : decode cX12_foundIn 13 = .ok (.invokevirtual 165, 3) := by decide +kernel
theorem dX12_foundIn_16 : decode cX12_foundIn 16 = .ok (.ireturn, 1) := by decide +kernel
theorem dX12_partyNow_0 : decode cX12_partyNow 0 = .ok (.iload_n 2, 1) := by decide +kernel
theorem dX12_partyNow_1 : decode cX12_partyNow 1 = .ok (.tableswitch 90 0 5 #[39, 46, 53, 60, 70, 84], 39) := by decide +kernel
theorem dX12_partyNow_40 : decode cX12_partyNow 40 = .ok (.aload_n 0, 1) := by decide +kernel
theorem dX12_partyNow_41 : decode cX12_partyNow 41 = .ok (.getfield 13, 3) := by decide +kernel
theorem dX12_partyNow_44 : decode cX12_partyNow 44 = .ok (.iload_n 1, 1) := by decide +kernel
theorem dX12_partyNow_45 : decode cX12_partyNow 45 = .ok (.iaload, 1) := by decide +kernel
theorem dX12_partyNow_46 : decode cX12_partyNow 46 = .ok (.ireturn, 1) := by decide +kernel
theorem dX12_partyNow_47 : decode cX12_partyNow 47 = .ok (.aload_n 0, 1) := by decide +kernel
theorem dX12_partyNow_48 : decode cX12_partyNow 48 = .ok (.getfield 16, 3) := by decide +kernel
theorem dX12_partyNow_51 : decode cX12_partyNow 51 = .ok (.iload_n 1, 1) := by decide +kernel
theorem dX12_partyNow_52 : decode cX12_partyNow 52 = .ok (.iaload, 1) := by decide +kernel
theorem dX12_partyNow_53 : decode cX12_partyNow 53 = .ok (.ireturn, 1) := by decide +kernel
theorem dX12_partyNow_54 : decode cX12_partyNow 54 = .ok (.aload_n 0, 1) := by decide +kernel
theorem dX12_partyNow_55 : decode cX12_partyNow 55 = .ok (.getfield 19, 3) := by decide +kernel
theorem dX12_partyNow_58 : decode cX12_partyNow 58 = .ok (.iload_n 1, 1) := by decide +kernel
theorem dX12_partyNow_59 : decode cX12_partyNow 59 = .ok (.iaload, 1) := by decide +kernel
theorem dX12_partyNow_60 : decode cX12_partyNow 60 = .ok (.ireturn, 1) := by decide +kernel
theorem dX12_partyNow_61 : decode cX12_partyNow 61 = .ok (.aload_n 0, 1) := by decide +kernel
theorem dX12_partyNow_62 : decode cX12_partyNow 62 = .ok (.iload_n 1, 1) := by decide +kernel
theorem dX12_partyNow_63 : decode cX12_partyNow 63 = .ok (.aload_n 0, 1) := by decide +kernel
theorem dX12_partyNow_64 : decode cX12_partyNow 64 = .ok (.getfield 119, 3) := by decide +kernel
theorem dX12_partyNow_67 : decode cX12_partyNow 67 = .ok (.invokevirtual 162, 3) := by decide +kernel
theorem dX12_partyNow_70 : decode cX12_partyNow 70 = .ok (.ireturn, 1) := by decide +kernel
theorem dX12_partyNow_71 : decode cX12_partyNow 71 = .ok (.aload_n 0, 1) := by decide +kernel
theorem dX12_partyNow_72 : decode cX12_partyNow 72 = .ok (.aload_n 0, 1) := by decide +kernel
theorem dX12_partyNow_73 : decode cX12_partyNow 73 = .ok (.iload_n 1, 1) := by decide +kernel
theorem dX12_partyNow_74 : decode cX12_partyNow 74 = .ok (.aload_n 0, 1) := by decide +kernel
theorem dX12_partyNow_75 : decode cX12_partyNow 75 = .ok (.getfield 119, 3) := by decide +kernel
theorem dX12_partyNow_78 : decode cX12_partyNow 78 = .ok (.invokevirtual 162, 3) := by decide +kernel
theorem dX12_partyNow_81 : decode cX12_partyNow 81 = .ok (.invokevirtual 159, 3) := by decide +kernel
theorem dX12_partyNow_84 : decode cX12_partyNow 84 = .ok (.ireturn, 1) := by decide +kernel
theorem dX12_partyNow_85 : decode cX12_partyNow 85 = .ok (.aload_n 0, 1) := by decide +kernel
theorem dX12_partyNow_86 : decode cX12_partyNow 86 = .ok (.iload_n 1, 1) := by decide +kernel
theorem dX12_partyNow_87 : decode cX12_partyNow 87 = .ok (.invokevirtual 168, 3) := by decide +kernel
theorem dX12_partyNow_90 : decode cX12_partyNow 90 = .ok (.ireturn, 1) := by decide +kernel
theorem dX12_partyNow_91 : decode cX12_partyNow 91 = .ok (.aload_n 0, 1) := by decide +kernel
theorem dX12_partyNow_92 : decode cX12_partyNow 92 = .ok (.iload_n 1, 1) := by decide +kernel
theorem dX12_partyNow_93 : decode cX12_partyNow 93 = .ok (.invokevirtual 171, 3) := by decide +kernel
theorem dX12_partyNow_96 : decode cX12_partyNow 96 = .ok (.ireturn, 1) := by decide +kernel
theorem dX12_party_0 : decode cX12_party 0 = .ok (.aload_n 0, 1) := by decide +kernel
theorem dX12_party_1 : decode cX12_party 1 = .ok (.iload_n 1, 1) := by decide +kernel
theorem dX12_party_2 : decode cX12_party 2 = .ok (.invokevirtual 134, 3) := by decide +kernel
theorem dX12_party_5 : decode cX12_party 5 = .ok (.ifCond .ne 8, 3) := by decide +kernel
theorem dX12_party_8 : decode cX12_party 8 = .ok (.bipush (-101), 2) := by decide +kernel
theorem dX12_party_10 : decode cX12_party 10 = .ok (.goto 24, 3) := by decide +kernel
theorem dX12_party_13 : decode cX12_party 13 = .ok (.iload_n 2, 1) := by decide +kernel
theorem dX12_party_14 : decode cX12_party 14 = .ok (.iconst 0, 1) := by decide +kernel
theorem dX12_party_15 : decode cX12_party 15 = .ok (.bipush 6, 2) := by decide +kernel
theorem dX12_party_17 : decode cX12_party 17 = .ok (.invokestatic 83, 3) := by decide +kernel
theorem dX12_party_20 : decode cX12_party 20 = .ok (.ifCond .eq 12, 3) := by decide +kernel
theorem dX12_party_23 : decode cX12_party 23 = .ok (.aload_n 0, 1) := by decide +kernel
theorem dX12_party_24 : decode cX12_party 24 = .ok (.iload_n 1, 1) := by decide +kernel
theorem dX12_party_25 : decode cX12_party 25 = .ok (.iload_n 2, 1) := by decide +kernel
theorem dX12_party_26 : decode cX12_party 26 = .ok (.invokevirtual 174, 3) := by decide +kernel
theorem dX12_party_29 : decode cX12_party 29 = .ok (.goto 5, 3) := by decide +kernel
theorem dX12_party_32 : decode cX12_party 32 = .ok (.bipush (-102), 2) := by decide +kernel
theorem dX12_party_34 : decode cX12_party 34 = .ok (.ireturn, 1) := by decide +kernel
theorem dX12_as_0 : decode cX12_as 0 = .ok (.aload_n 0, 1) := by decide +kernel
theorem dX12_as_1 : decode cX12_as 1 = .ok (.iload_n 1, 1) := by decide +kernel
theorem dX12_as_2 : decode cX12_as 2 = .ok (.invokevirtual 134, 3) := by decide +kernel
theorem dX12_as_5 : decode cX12_as 5 = .ok (.ifCond .ne 6, 3) := by decide +kernel
theorem dX12_as_8 : decode cX12_as 8 = .ok (.bipush (-101), 2) := by decide +kernel
theorem dX12_as_10 : decode cX12_as 10 = .ok (.ireturn, 1) := by decide +kernel
theorem dX12_as_11 : decode cX12_as 11 = .ok (.iload_n 2, 1) := by decide +kernel
theorem dX12_as_12 : decode cX12_as 12 = .ok (.iconst 0, 1) := by decide +kernel
theorem dX12_as_13 : decode cX12_as 13 = .ok (.iconst 4, 1) := by decide +kernel
theorem dX12_as_14 : decode cX12_as 14 = .ok (.invokestatic 83, 3) := by decide +kernel
theorem dX12_as_17 : decode cX12_as 17 = .ok (.ifCond .ne 6, 3) := by decide +kernel
theorem dX12_as_20 : decode cX12_as 20 = .ok (.bipush (-102), 2) := by decide +kernel
theorem dX12_as_22 : decode cX12_as 22 = .ok (.ireturn, 1) := by decide +kernel
theorem dX12_as_23 : decode cX12_as 23 = .ok (.aload_n 0, 1) := by decide +kernel
theorem dX12_as_24 : decode cX12_as 24 = .ok (.getfield 13, 3) := by decide +kernel
theorem dX12_as_27 : decode cX12_as 27 = .ok (.iload_n 1, 1) := by decide +kernel
theorem dX12_as_28 : decode cX12_as 28 = .ok (.iaload, 1) := by decide +kernel
theorem dX12_as_29 : decode cX12_as 29 = .ok (.istore_n 3, 1) := by decide +kernel
theorem dX12_as_30 : decode cX12_as 30 = .ok (.iload_n 2, 1) := by decide +kernel
theorem dX12_as_31 : decode cX12_as 31 = .ok (.ifCond .eq 18, 3) := by decide +kernel
theorem dX12_as_34 : decode cX12_as 34 = .ok (.iload_n 3, 1) := by decide +kernel
theorem dX12_as_35 : decode cX12_as 35 = .ok (.iload_n 2, 1) := by decide +kernel
theorem dX12_as_36 : decode cX12_as 36 = .ok (.if_icmp .eq 13, 3) := by decide +kernel
theorem dX12_as_39 : decode cX12_as 39 = .ok (.iload_n 2, 1) := by decide +kernel
theorem dX12_as_40 : decode cX12_as 40 = .ok (.iconst 1, 1) := by decide +kernel
theorem dX12_as_41 : decode cX12_as 41 = .ok (.if_icmp .ne 12, 3) := by decide +kernel
theorem dX12_as_44 : decode cX12_as 44 = .ok (.iload_n 3, 1) := by decide +kernel
theorem dX12_as_45 : decode cX12_as 45 = .ok (.iconst 4, 1) := by decide +kernel
theorem dX12_as_46 : decode cX12_as 46 = .ok (.if_icmp .ne 7, 3) := by decide +kernel
theorem dX12_as_49 : decode cX12_as 49 = .ok (.iload_n 1, 1) := by decide +kernel
theorem dX12_as_50 : decode cX12_as 50 = .ok (.goto 4, 3) := by decide +kernel
theorem dX12_as_53 : decode cX12_as 53 = .ok (.iconst (-1), 1) := by decide +kernel
theorem dX12_as_54 : decode cX12_as 54 = .ok (.ireturn, 1) := by decide +kernel
theorem dX12_covers_0 : decode cX12_covers 0 = .ok (.aload_n 0, 1) := by decide +kernel
theorem dX12_covers_1 : decode cX12_covers 1 = .ok (.iload_n 1, 1) := by decide +kernel
theorem dX12_covers_2 : decode cX12_covers 2 = .ok (.invokevirtual 134, 3) := by decide +kernel
theorem dX12_covers_5 : decode cX12_covers 5 = .ok (.ifCond .ne 6, 3) := by decide +kernel
theorem dX12_covers_8 : decode cX12_covers 8 = .ok (.bipush (-101), 2) := by decide +kernel
theorem dX12_covers_10 : decode cX12_covers 10 = .ok (.ireturn, 1) := by decide +kernel
theorem dX12_covers_11 : decode cX12_covers 11 = .ok (.iload_n 2, 1) := by decide +kernel
theorem dX12_covers_12 : decode cX12_covers 12 = .ok (.iconst 0, 1) := by decide +kernel
theorem dX12_covers_13 : decode cX12_covers 13 = .ok (.bipush 12, 2) := by decide +kernel
theorem dX12_covers_15 : decode cX12_covers 15 = .ok (.invokestatic 83, 3) := by decide +kernel
theorem dX12_covers_18 : decode cX12_covers 18 = .ok (.ifCond .eq 12, 3) := by decide +kernel
theorem dX12_covers_21 : decode cX12_covers 21 = .ok (.aload_n 0, 1) := by decide +kernel
theorem dX12_covers_22 : decode cX12_covers 22 = .ok (.iload_n 1, 1) := by decide +kernel
theorem dX12_covers_23 : decode cX12_covers 23 = .ok (.iload_n 2, 1) := by decide +kernel
theorem dX12_covers_24 : decode cX12_covers 24 = .ok (.invokevirtual 162, 3) := by decide +kernel
theorem dX12_covers_27 : decode cX12_covers 27 = .ok (.goto 5, 3) := by decide +kernel
theorem dX12_covers_30 : decode cX12_covers 30 = .ok (.bipush (-102), 2) := by decide +kernel
theorem dX12_covers_32 : decode cX12_covers 32 = .ok (.ireturn, 1) := by decide +kernel
theorem dX12_tileNow_0 : decode cX12_tileNow 0 = .ok (.iconst 0, 1) := by decide +kernel
theorem dX12_tileNow_1 : decode cX12_tileNow 1 = .ok (.istore_n 3, 1) := by decide +kernel
theorem dX12_tileNow_2 : decode cX12_tileNow 2 = .ok (.iconst 0, 1) := by decide +kernel
theorem dX12_tileNow_3 : decode cX12_tileNow 3 = .ok (.istore 4, 2) := by decide +kernel
theorem dX12_tileNow_5 : decode cX12_tileNow 5 = .ok (.iload 4, 2) := by decide +kernel
theorem dX12_tileNow_7 : decode cX12_tileNow 7 = .ok (.aload_n 0, 1) := by decide +kernel
theorem dX12_tileNow_8 : decode cX12_tileNow 8 = .ok (.getfield 116, 3) := by decide +kernel
theorem dX12_tileNow_11 : decode cX12_tileNow 11 = .ok (.if_icmp .ge 65, 3) := by decide +kernel
theorem dX12_tileNow_14 : decode cX12_tileNow 14 = .ok (.iload_n 2, 1) := by decide +kernel
theorem dX12_tileNow_15 : decode cX12_tileNow 15 = .ok (.iconst 1, 1) := by decide +kernel
theorem dX12_tileNow_16 : decode cX12_tileNow 16 = .ok (.if_icmp .ne 22, 3) := by decide +kernel
theorem dX12_tileNow_19 : decode cX12_tileNow 19 = .ok (.aload_n 0, 1) := by decide +kernel
theorem dX12_tileNow_20 : decode cX12_tileNow 20 = .ok (.getfield 19, 3) := by decide +kernel
theorem dX12_tileNow_23 : decode cX12_tileNow 23 = .ok (.iload 4, 2) := by decide +kernel
theorem dX12_tileNow_25 : decode cX12_tileNow 25 = .ok (.iaload, 1) := by decide +kernel
theorem dX12_tileNow_26 : decode cX12_tileNow 26 = .ok (.iload_n 1, 1) := by decide +kernel
theorem dX12_tileNow_27 : decode cX12_tileNow 27 = .ok (.if_icmp .ne 7, 3) := by decide +kernel
theorem dX12_tileNow_30 : decode cX12_tileNow 30 = .ok (.iconst 1, 1) := by decide +kernel
theorem dX12_tileNow_31 : decode cX12_tileNow 31 = .ok (.goto 21, 3) := by decide +kernel
theorem dX12_tileNow_34 : decode cX12_tileNow 34 = .ok (.iconst 0, 1) := by decide +kernel
theorem dX12_tileNow_35 : decode cX12_tileNow 35 = .ok (.goto 17, 3) := by decide +kernel
theorem dX12_tileNow_38 : decode cX12_tileNow 38 = .ok (.aload_n 0, 1) := by decide +kernel
theorem dX12_tileNow_39 : decode cX12_tileNow 39 = .ok (.iload 4, 2) := by decide +kernel
theorem dX12_tileNow_41 : decode cX12_tileNow 41 = .ok (.aload_n 0, 1) := by decide +kernel
theorem dX12_tileNow_42 : decode cX12_tileNow 42 = .ok (.getfield 119, 3) := by decide +kernel
theorem dX12_tileNow_45 : decode cX12_tileNow 45 = .ok (.invokevirtual 162, 3) := by decide +kernel
theorem dX12_tileNow_48 : decode cX12_tileNow 48 = .ok (.iload_n 1, 1) := by decide +kernel
theorem dX12_tileNow_49 : decode cX12_tileNow 49 = .ok (.invokestatic 156, 3) := by decide +kernel
theorem dX12_tileNow_52 : decode cX12_tileNow 52 = .ok (.istore 5, 2) := by decide +kernel
theorem dX12_tileNow_54 : decode cX12_tileNow 54 = .ok (.iload_n 3, 1) := by decide +kernel
theorem dX12_tileNow_55 : decode cX12_tileNow 55 = .ok (.iload 5, 2) := by decide +kernel
theorem dX12_tileNow_57 : decode cX12_tileNow 57 = .ok (.ifCond .eq 10, 3) := by decide +kernel
theorem dX12_tileNow_60 : decode cX12_tileNow 60 = .ok (.iconst 1, 1) := by decide +kernel
theorem dX12_tileNow_61 : decode cX12_tileNow 61 = .ok (.iload 4, 2) := by decide +kernel
theorem dX12_tileNow_63 : decode cX12_tileNow 63 = .ok (.ishl, 1) := by decide +kernel
theorem dX12_tileNow_64 : decode cX12_tileNow 64 = .ok (.goto 4, 3) := by decide +kernel
theorem dX12_tileNow_67 : decode cX12_tileNow 67 = .ok (.iconst 0, 1) := by decide +kernel
theorem dX12_tileNow_68 : decode cX12_tileNow 68 = .ok (.ior, 1) := by decide +kernel
theorem dX12_tileNow_69 : decode cX12_tileNow 69 = .ok (.istore_n 3, 1) := by decide +kernel
theorem dX12_tileNow_70 : decode cX12_tileNow 70 = .ok (.iinc 4 1, 3) := by decide +kernel
theorem dX12_tileNow_73 : decode cX12_tileNow 73 = .ok (.goto (-68), 3) := by decide +kernel
theorem dX12_tileNow_76 : decode cX12_tileNow 76 = .ok (.iload_n 2, 1) := by decide +kernel
theorem dX12_tileNow_77 : decode cX12_tileNow 77 = .ok (.ifCond .ne 12, 3) := by decide +kernel
theorem dX12_tileNow_80 : decode cX12_tileNow 80 = .ok (.aload_n 0, 1) := by decide +kernel
theorem dX12_tileNow_81 : decode cX12_tileNow 81 = .ok (.getfield 7, 3) := by decide +kernel
theorem dX12_tileNow_84 : decode cX12_tileNow 84 = .ok (.iload_n 1, 1) := by decide +kernel
theorem dX12_tileNow_85 : decode cX12_tileNow 85 = .ok (.iaload, 1) := by decide +kernel
theorem dX12_tileNow_86 : decode cX12_tileNow 86 = .ok (.goto 4, 3) := by decide +kernel
theorem dX12_tileNow_89 : decode cX12_tileNow 89 = .ok (.iload_n 3, 1) := by decide +kernel
theorem dX12_tileNow_90 : decode cX12_tileNow 90 = .ok (.ireturn, 1) := by decide +kernel
theorem dX12_tile_0 : decode cX12_tile 0 = .ok (.aload_n 0, 1) := by decide +kernel
theorem dX12_tile_1 : decode cX12_tile 1 = .ok (.iload_n 1, 1) := by decide +kernel
theorem dX12_tile_2 : decode cX12_tile 2 = .ok (.invokevirtual 177, 3) := by decide +kernel
theorem dX12_tile_5 : decode cX12_tile 5 = .ok (.ifCond .ne 8, 3) := by decide +kernel
theorem dX12_tile_8 : decode cX12_tile 8 = .ok (.bipush (-101), 2) := by decide +kernel
theorem dX12_tile_10 : decode cX12_tile 10 = .ok (.goto 23, 3) := by decide +kernel
theorem dX12_tile_13 : decode cX12_tile 13 = .ok (.iload_n 2, 1) := by decide +kernel
theorem dX12_tile_14 : decode cX12_tile 14 = .ok (.iconst 0, 1) := by decide +kernel
theorem dX12_tile_15 : decode cX12_tile 15 = .ok (.iconst 2, 1) := by decide +kernel
theorem dX12_tile_16 : decode cX12_tile 16 = .ok (.invokestatic 83, 3) := by decide +kernel
theorem dX12_tile_19 : decode cX12_tile 19 = .ok (.ifCond .eq 12, 3) := by decide +kernel
theorem dX12_tile_22 : decode cX12_tile 22 = .ok (.aload_n 0, 1) := by decide +kernel
theorem dX12_tile_23 : decode cX12_tile 23 = .ok (.iload_n 1, 1) := by decide +kernel
theorem dX12_tile_24 : decode cX12_tile 24 = .ok (.iload_n 2, 1) := by decide +kernel
theorem dX12_tile_25 : decode cX12_tile 25 = .ok (.invokevirtual 180, 3) := by decide +kernel
theorem dX12_tile_28 : decode cX12_tile 28 = .ok (.goto 5, 3) := by decide +kernel
theorem dX12_tile_31 : decode cX12_tile 31 = .ok (.bipush (-102), 2) := by decide +kernel
theorem dX12_tile_33 : decode cX12_tile 33 = .ok (.ireturn, 1) := by decide +kernel
theorem dX12_found_0 : decode cX12_found 0 = .ok (.aload_n 0, 1) := by decide +kernel
theorem dX12_found_1 : decode cX12_found 1 = .ok (.iload_n 1, 1) := by decide +kernel
theorem dX12_found_2 : decode cX12_found 2 = .ok (.iload_n 2, 1) := by decide +kernel
theorem dX12_found_3 : decode cX12_found 3 = .ok (.invokevirtual 183, 3) := by decide +kernel
theorem dX12_found_6 : decode cX12_found 6 = .ok (.ifCond .ne 6, 3) := by decide +kernel
theorem dX12_found_9 : decode cX12_found 9 = .ok (.bipush (-101), 2) := by decide +kernel
theorem dX12_found_11 : decode cX12_found 11 = .ok (.ireturn, 1) := by decide +kernel
theorem dX12_found_12 : decode cX12_found 12 = .ok (.iload_n 3, 1) := by decide +kernel
theorem dX12_found_13 : decode cX12_found 13 = .ok (.iconst 0, 1) := by decide +kernel
theorem dX12_found_14 : decode cX12_found 14 = .ok (.bipush 12, 2) := by decide +kernel
theorem dX12_found_16 : decode cX12_found 16 = .ok (.invokestatic 83, 3) := by decide +kernel
theorem dX12_found_19 : decode cX12_found 19 = .ok (.ifCond .eq 16, 3) := by decide +kernel
theorem dX12_found_22 : decode cX12_found 22 = .ok (.aload_n 0, 1) := by decide +kernel
theorem dX12_found_23 : decode cX12_found 23 = .ok (.iload_n 1, 1) := by decide +kernel
theorem dX12_found_24 : decode cX12_found 24 = .ok (.iload_n 2, 1) := by decide +kernel
theorem dX12_found_25 : decode cX12_found 25 = .ok (.iload_n 3, 1) := by decide +kernel
theorem dX12_found_26 : decode cX12_found 26 = .ok (.invokevirtual 186, 3) := by decide +kernel
theorem dX12_found_29 : decode cX12_found 29 = .ok (.bipush 100, 2) := by decide +kernel
theorem dX12_found_31 : decode cX12_found 31 = .ok (.iadd, 1) := by decide +kernel
theorem dX12_found_32 : decode cX12_found 32 = .ok (.goto 5, 3) := by decide +kernel
theorem dX12_found_35 : decode cX12_found 35 = .ok (.bipush (-102), 2) := by decide +kernel
theorem dX12_found_37 : decode cX12_found 37 = .ok (.ireturn, 1) := by decide +kernel
theorem dX12_tick_0 : decode cX12_tick 0 = .ok (.aload_n 0, 1) := by decide +kernel
theorem dX12_tick_1 : decode cX12_tick 1 = .ok (.getfield 116, 3) := by decide +kernel
theorem dX12_tick_4 : decode cX12_tick 4 = .ok (.ifCond .ne 6, 3) := by decide +kernel
theorem dX12_tick_7 : decode cX12_tick 7 = .ok (.bipush (-103), 2) := by decide +kernel
theorem dX12_tick_9 : decode cX12_tick 9 = .ok (.ireturn, 1) := by decide +kernel
theorem dX12_tick_10 : decode cX12_tick 10 = .ok (.aload_n 0, 1) := by decide +kernel
theorem dX12_tick_11 : decode cX12_tick 11 = .ok (.getfield 119, 3) := by decide +kernel
theorem dX12_tick_14 : decode cX12_tick 14 = .ok (.bipush 12, 2) := by decide +kernel
theorem dX12_tick_16 : decode cX12_tick 16 = .ok (.if_icmp .ne 15, 3) := by decide +kernel
theorem dX12_tick_19 : decode cX12_tick 19 = .ok (.aload_n 0, 1) := by decide +kernel
theorem dX12_tick_20 : decode cX12_tick 20 = .ok (.getfield 122, 3) := by decide +kernel
theorem dX12_tick_23 : decode cX12_tick 23 = .ok (.bipush 99, 2) := by decide +kernel
theorem dX12_tick_25 : decode cX12_tick 25 = .ok (.if_icmp .ne 6, 3) := by decide +kernel
theorem dX12_tick_28 : decode cX12_tick 28 = .ok (.bipush (-104), 2) := by decide +kernel
theorem dX12_tick_30 : decode cX12_tick 30 = .ok (.ireturn, 1) := by decide +kernel
theorem dX12_tick_31 : decode cX12_tick 31 = .ok (.aload_n 0, 1) := by decide +kernel
theorem dX12_tick_32 : decode cX12_tick 32 = .ok (.dup, 1) := by decide +kernel
theorem dX12_tick_33 : decode cX12_tick 33 = .ok (.getfield 122, 3) := by decide +kernel
theorem dX12_tick_36 : decode cX12_tick 36 = .ok (.aload_n 0, 1) := by decide +kernel
theorem dX12_tick_37 : decode cX12_tick 37 = .ok (.getfield 119, 3) := by decide +kernel
theorem dX12_tick_40 : decode cX12_tick 40 = .ok (.bipush 12, 2) := by decide +kernel
theorem dX12_tick_42 : decode cX12_tick 42 = .ok (.if_icmp .ne 7, 3) := by decide +kernel
theorem dX12_tick_45 : decode cX12_tick 45 = .ok (.iconst 1, 1) := by decide +kernel
theorem dX12_tick_46 : decode cX12_tick 46 = .ok (.goto 4, 3) := by decide +kernel
theorem dX12_tick_49 : decode cX12_tick 49 = .ok (.iconst 0, 1) := by decide +kernel
theorem dX12_tick_50 : decode cX12_tick 50 = .ok (.iadd, 1) := by decide +kernel
theorem dX12_tick_51 : decode cX12_tick 51 = .ok (.putfield 122, 3) := by decide +kernel
theorem dX12_tick_54 : decode cX12_tick 54 = .ok (.aload_n 0, 1) := by decide +kernel
theorem dX12_tick_55 : decode cX12_tick 55 = .ok (.aload_n 0, 1) := by decide +kernel
theorem dX12_tick_56 : decode cX12_tick 56 = .ok (.getfield 119, 3) := by decide +kernel
theorem dX12_tick_59 : decode cX12_tick 59 = .ok (.bipush 12, 2) := by decide +kernel
theorem dX12_tick_61 : decode cX12_tick 61 = .ok (.if_icmp .ne 7, 3) := by decide +kernel
theorem dX12_tick_64 : decode cX12_tick 64 = .ok (.iconst 0, 1) := by decide +kernel
theorem dX12_tick_65 : decode cX12_tick 65 = .ok (.goto 9, 3) := by decide +kernel
theorem dX12_tick_68 : decode cX12_tick 68 = .ok (.aload_n 0, 1) := by decide +kernel
theorem dX12_tick_69 : decode cX12_tick 69 = .ok (.getfield 119, 3) := by decide +kernel
theorem dX12_tick_72 : decode cX12_tick 72 = .ok (.iconst 1, 1) := by decide +kernel
theorem dX12_tick_73 : decode cX12_tick 73 = .ok (.iadd, 1) := by decide +kernel
theorem dX12_tick_74 : decode cX12_tick 74 = .ok (.putfield 119, 3) := by decide +kernel
theorem dX12_tick_77 : decode cX12_tick 77 = .ok (.aload_n 0, 1) := by decide +kernel
theorem dX12_tick_78 : decode cX12_tick 78 = .ok (.getfield 119, 3) := by decide +kernel
theorem dX12_tick_81 : decode cX12_tick 81 = .ok (.ireturn, 1) := by decide +kernel
theorem dX12_step_0 : decode cX12_step 0 = .ok (.aload_n 0, 1) := by decide +kernel
theorem dX12_step_1 : decode cX12_step 1 = .ok (.iload_n 1, 1) := by decide +kernel
theorem dX12_step_2 : decode cX12_step 2 = .ok (.invokevirtual 134, 3) := by decide +kernel
theorem dX12_step_5 : decode cX12_step 5 = .ok (.ifCond .ne 6, 3) := by decide +kernel
theorem dX12_step_8 : decode cX12_step 8 = .ok (.bipush (-101), 2) := by decide +kernel
theorem dX12_step_10 : decode cX12_step 10 = .ok (.ireturn, 1) := by decide +kernel
theorem dX12_step_11 : decode cX12_step 11 = .ok (.iload_n 2, 1) := by decide +kernel
theorem dX12_step_12 : decode cX12_step 12 = .ok (.iconst 1, 1) := by decide +kernel
theorem dX12_step_13 : decode cX12_step 13 = .ok (.if_icmp .eq 11, 3) := by decide +kernel
theorem dX12_step_16 : decode cX12_step 16 = .ok (.iload_n 2, 1) := by decide +kernel
theorem dX12_step_17 : decode cX12_step 17 = .ok (.iconst (-1), 1) := by decide +kernel
theorem dX12_step_18 : decode cX12_step 18 = .ok (.if_icmp .eq 6, 3) := by decide +kernel
theorem dX12_step_21 : decode cX12_step 21 = .ok (.bipush (-102), 2) := by decide +kernel
theorem dX12_step_23 : decode cX12_step 23 = .ok (.ireturn, 1) := by decide +kernel
theorem dX12_step_24 : decode cX12_step 24 = .ok (.aload_n 0, 1) := by decide +kernel
theorem dX12_step_25 : decode cX12_step 25 = .ok (.getfield 19, 3) := by decide +kernel
theorem dX12_step_28 : decode cX12_step 28 = .ok (.iload_n 1, 1) := by decide +kernel
theorem dX12_step_29 : decode cX12_step 29 = .ok (.iaload, 1) := by decide +kernel
theorem dX12_step_30 : decode cX12_step 30 = .ok (.iload_n 2, 1) := by decide +kernel
theorem dX12_step_31 : decode cX12_step 31 = .ok (.iadd, 1) := by decide +kernel
theorem dX12_step_32 : decode cX12_step 32 = .ok (.istore_n 3, 1) := by decide +kernel
theorem dX12_step_33 : decode cX12_step 33 = .ok (.iload_n 3, 1) := by decide +kernel
theorem dX12_step_34 : decode cX12_step 34 = .ok (.iconst 0, 1) := by decide +kernel
theorem dX12_step_35 : decode cX12_step 35 = .ok (.bipush 9, 2) := by decide +kernel
theorem dX12_step_37 : decode cX12_step 37 = .ok (.invokestatic 83, 3) := by decide +kernel
theorem dX12_step_40 : decode cX12_step 40 = .ok (.ifCond .ne 6, 3) := by decide +kernel
theorem dX12_step_43 : decode cX12_step 43 = .ok (.bipush (-103), 2) := by decide +kernel
theorem dX12_step_45 : decode cX12_step 45 = .ok (.ireturn, 1) := by decide +kernel
theorem dX12_step_46 : decode cX12_step 46 = .ok (.aload_n 0, 1) := by decide +kernel
theorem dX12_step_47 : decode cX12_step 47 = .ok (.getfield 19, 3) := by decide +kernel
theorem dX12_step_50 : decode cX12_step 50 = .ok (.iload_n 1, 1) := by decide +kernel
theorem dX12_step_51 : decode cX12_step 51 = .ok (.iload_n 3, 1) := by decide +kernel
theorem dX12_step_52 : decode cX12_step 52 = .ok (.iastore, 1) := by decide +kernel
theorem dX12_step_53 : decode cX12_step 53 = .ok (.iload_n 3, 1) := by decide +kernel
theorem dX12_step_54 : decode cX12_step 54 = .ok (.ireturn, 1) := by decide +kernel
theorem dX12_stand_0 : decode cX12_stand 0 = .ok (.aload_n 0, 1) := by decide +kernel
theorem dX12_stand_1 : decode cX12_stand 1 = .ok (.iload_n 1, 1) := by decide +kernel
theorem dX12_stand_2 : decode cX12_stand 2 = .ok (.invokevirtual 134, 3) := by decide +kernel
theorem dX12_stand_5 : decode cX12_stand 5 = .ok (.ifCond .eq 11, 3) := by decide +kernel
theorem dX12_stand_8 : decode cX12_stand 8 = .ok (.aload_n 0, 1) := by decide +kernel
theorem dX12_stand_9 : decode cX12_stand 9 = .ok (.iload_n 2, 1) := by decide +kernel
theorem dX12_stand_10 : decode cX12_stand 10 = .ok (.invokevirtual 177, 3) := by decide +kernel
theorem dX12_stand_13 : decode cX12_stand 13 = .ok (.ifCond .ne 6, 3) := by decide +kernel
theorem dX12_stand_16 : decode cX12_stand 16 = .ok (.bipush (-101), 2) := by decide +kernel
theorem dX12_stand_18 : decode cX12_stand 18 = .ok (.ireturn, 1) := by decide +kernel
theorem dX12_stand_19 : decode cX12_stand 19 = .ok (.aload_n 0, 1) := by decide +kernel
theorem dX12_stand_20 : decode cX12_stand 20 = .ok (.getfield 19, 3) := by decide +kernel
theorem dX12_stand_23 : decode cX12_stand 23 = .ok (.iload_n 1, 1) := by decide +kernel
theorem dX12_stand_24 : decode cX12_stand 24 = .ok (.iaload, 1) := by decide +kernel
theorem dX12_stand_25 : decode cX12_stand 25 = .ok (.istore_n 3, 1) := by decide +kernel
theorem dX12_stand_26 : decode cX12_stand 26 = .ok (.aload_n 0, 1) := by decide +kernel
theorem dX12_stand_27 : decode cX12_stand 27 = .ok (.getfield 19, 3) := by decide +kernel
theorem dX12_stand_30 : decode cX12_stand 30 = .ok (.iload_n 1, 1) := by decide +kernel
theorem dX12_stand_31 : decode cX12_stand 31 = .ok (.iload_n 2, 1) := by decide +kernel
theorem dX12_stand_32 : decode cX12_stand 32 = .ok (.iastore, 1) := by decide +kernel
theorem dX12_stand_33 : decode cX12_stand 33 = .ok (.iload_n 3, 1) := by decide +kernel
theorem dX12_stand_34 : decode cX12_stand 34 = .ok (.ireturn, 1) := by decide +kernel
theorem dX12_rise_0 : decode cX12_rise 0 = .ok (.aload_n 0, 1) := by decide +kernel
theorem dX12_rise_1 : decode cX12_rise 1 = .ok (.iload_n 1, 1) := by decide +kernel
theorem dX12_rise_2 : decode cX12_rise 2 = .ok (.invokevirtual 134, 3) := by decide +kernel
theorem dX12_rise_5 : decode cX12_rise 5 = .ok (.ifCond .ne 6, 3) := by decide +kernel
theorem dX12_rise_8 : decode cX12_rise 8 = .ok (.bipush (-101), 2) := by decide +kernel
theorem dX12_rise_10 : decode cX12_rise 10 = .ok (.ireturn, 1) := by decide +kernel
theorem dX12_rise_11 : decode cX12_rise 11 = .ok (.iload_n 2, 1) := by decide +kernel
theorem dX12_rise_12 : decode cX12_rise 12 = .ok (.iconst 1, 1) := by decide +kernel
theorem dX12_rise_13 : decode cX12_rise 13 = .ok (.bipush 9, 2) := by decide +kernel
theorem dX12_rise_15 : decode cX12_rise 15 = .ok (.invokestatic 83, 3) := by decide +kernel
theorem dX12_rise_18 : decode cX12_rise 18 = .ok (.ifCond .ne 6, 3) := by decide +kernel
theorem dX12_rise_21 : decode cX12_rise 21 = .ok (.bipush (-102), 2) := by decide +kernel
theorem dX12_rise_23 : decode cX12_rise 23 = .ok (.ireturn, 1) := by decide +kernel
theorem dX12_rise_24 : decode cX12_rise 24 = .ok (.aload_n 0, 1) := by decide +kernel
theorem dX12_rise_25 : decode cX12_rise 25 = .ok (.getfield 16, 3) := by decide +kernel
theorem dX12_rise_28 : decode cX12_rise 28 = .ok (.iload_n 1, 1) := by decide +kernel
theorem dX12_rise_29 : decode cX12_rise 29 = .ok (.iaload, 1) := by decide +kernel
theorem dX12_rise_30 : decode cX12_rise 30 = .ok (.istore_n 3, 1) := by decide +kernel
theorem dX12_rise_31 : decode cX12_rise 31 = .ok (.aload_n 0, 1) := by decide +kernel
theorem dX12_rise_32 : decode cX12_rise 32 = .ok (.getfield 16, 3) := by decide +kernel
theorem dX12_rise_35 : decode cX12_rise 35 = .ok (.iload_n 1, 1) := by decide +kernel
theorem dX12_rise_36 : decode cX12_rise 36 = .ok (.iload_n 2, 1) := by decide +kernel
theorem dX12_rise_37 : decode cX12_rise 37 = .ok (.iastore, 1) := by decide +kernel
theorem dX12_rise_38 : decode cX12_rise 38 = .ok (.iload_n 3, 1) := by decide +kernel
theorem dX12_rise_39 : decode cX12_rise 39 = .ok (.ireturn, 1) := by decide +kernel
theorem dX12_lay_0 : decode cX12_lay 0 = .ok (.aload_n 0, 1) := by decide +kernel
theorem dX12_lay_1 : decode cX12_lay 1 = .ok (.iload_n 1, 1) := by decide +kernel
theorem dX12_lay_2 : decode cX12_lay 2 = .ok (.invokevirtual 177, 3) := by decide +kernel
theorem dX12_lay_5 : decode cX12_lay 5 = .ok (.ifCond .ne 6, 3) := by decide +kernel
theorem dX12_lay_8 : decode cX12_lay 8 = .ok (.bipush (-101), 2) := by decide +kernel
theorem dX12_lay_10 : decode cX12_lay 10 = .ok (.ireturn, 1) := by decide +kernel
theorem dX12_lay_11 : decode cX12_lay 11 = .ok (.iload_n 2, 1) := by decide +kernel
theorem dX12_lay_12 : decode cX12_lay 12 = .ok (.iconst 0, 1) := by decide +kernel
theorem dX12_lay_13 : decode cX12_lay 13 = .ok (.bipush 9, 2) := by decide +kernel
theorem dX12_lay_15 : decode cX12_lay 15 = .ok (.invokestatic 83, 3) := by decide +kernel
theorem dX12_lay_18 : decode cX12_lay 18 = .ok (.ifCond .ne 6, 3) := by decide +kernel
theorem dX12_lay_21 : decode cX12_lay 21 = .ok (.bipush (-102), 2) := by decide +kernel
theorem dX12_lay_23 : decode cX12_lay 23 = .ok (.ireturn, 1) := by decide +kernel
theorem dX12_lay_24 : decode cX12_lay 24 = .ok (.aload_n 0, 1) := by decide +kernel
theorem dX12_lay_25 : decode cX12_lay 25 = .ok (.getfield 7, 3) := by decide +kernel
theorem dX12_lay_28 : decode cX12_lay 28 = .ok (.iload_n 1, 1) := by decide +kernel
theorem dX12_lay_29 : decode cX12_lay 29 = .ok (.iaload, 1) := by decide +kernel
theorem dX12_lay_30 : decode cX12_lay 30 = .ok (.istore_n 3, 1) := by decide +kernel
theorem dX12_lay_31 : decode cX12_lay 31 = .ok (.aload_n 0, 1) := by decide +kernel
theorem dX12_lay_32 : decode cX12_lay 32 = .ok (.getfield 7, 3) := by decide +kernel
theorem dX12_lay_35 : decode cX12_lay 35 = .ok (.iload_n 1, 1) := by decide +kernel
theorem dX12_lay_36 : decode cX12_lay 36 = .ok (.iload_n 2, 1) := by decide +kernel
theorem dX12_lay_37 : decode cX12_lay 37 = .ok (.iastore, 1) := by decide +kernel
theorem dX12_lay_38 : decode cX12_lay 38 = .ok (.iload_n 3, 1) := by decide +kernel
theorem dX12_lay_39 : decode cX12_lay 39 = .ok (.ireturn, 1) := by decide +kernel
theorem dX12_file_0 : decode cX12_file 0 = .ok (.aload_n 0, 1) := by decide +kernel
theorem dX12_file_1 : decode cX12_file 1 = .ok (.iload_n 1, 1) := by decide +kernel
theorem dX12_file_2 : decode cX12_file 2 = .ok (.iload_n 2, 1) := by decide +kernel
theorem dX12_file_3 : decode cX12_file 3 = .ok (.invokevirtual 183, 3) := by decide +kernel
theorem dX12_file_6 : decode cX12_file 6 = .ok (.ifCond .ne 6, 3) := by decide +kernel
theorem dX12_file_9 : decode cX12_file 9 = .ok (.bipush (-101), 2) := by decide +kernel
theorem dX12_file_11 : decode cX12_file 11 = .ok (.ireturn, 1) := by decide +kernel
theorem dX12_file_12 : decode cX12_file 12 = .ok (.aload_n 0, 1) := by decide +kernel
theorem dX12_file_13 : decode cX12_file 13 = .ok (.getfield 125, 3) := by decide +kernel
theorem dX12_file_16 : decode cX12_file 16 = .ok (.iconst 5, 1) := by decide +kernel
theorem dX12_file_17 : decode cX12_file 17 = .ok (.if_icmp .ne 6, 3) := by decide +kernel
theorem dX12_file_20 : decode cX12_file 20 = .ok (.bipush (-104), 2) := by decide +kernel
theorem dX12_file_22 : decode cX12_file 22 = .ok (.ireturn, 1) := by decide +kernel
theorem dX12_file_23 : decode cX12_file 23 = .ok (.aload_n 0, 1) := by decide +kernel
theorem dX12_file_24 : decode cX12_file 24 = .ok (.getfield 22, 3) := by decide +kernel
theorem dX12_file_27 : decode cX12_file 27 = .ok (.aload_n 0, 1) := by decide +kernel
theorem dX12_file_28 : decode cX12_file 28 = .ok (.getfield 125, 3) := by decide +kernel
theorem dX12_file_31 : decode cX12_file 31 = .ok (.iload_n 1, 1) := by decide +kernel
theorem dX12_file_32 : decode cX12_file 32 = .ok (.iastore, 1) := by decide +kernel
theorem dX12_file_33 : decode cX12_file 33 = .ok (.aload_n 0, 1) := by decide +kernel
theorem dX12_file_34 : decode cX12_file 34 = .ok (.getfield 25, 3) := by decide +kernel
theorem dX12_file_37 : decode cX12_file 37 = .ok (.aload_n 0, 1) := by decide +kernel
theorem dX12_file_38 : decode cX12_file 38 = .ok (.getfield 125, 3) := by decide +kernel
theorem dX12_file_41 : decode cX12_file 41 = .ok (.iload_n 2, 1) := by decide +kernel
theorem dX12_file_42 : decode cX12_file 42 = .ok (.iastore, 1) := by decide +kernel
theorem dX12_file_43 : decode cX12_file 43 = .ok (.aload_n 0, 1) := by decide +kernel
theorem dX12_file_44 : decode cX12_file 44 = .ok (.dup, 1) := by decide +kernel
theorem dX12_file_45 : decode cX12_file 45 = .ok (.getfield 125, 3) := by decide +kernel
theorem dX12_file_48 : decode cX12_file 48 = .ok (.iconst 1, 1) := by decide +kernel
theorem dX12_file_49 : decode cX12_file 49 = .ok (.iadd, 1) := by decide +kernel
theorem dX12_file_50 : decode cX12_file 50 = .ok (.putfield 125, 3) := by decide +kernel
theorem dX12_file_53 : decode cX12_file 53 = .ok (.aload_n 0, 1) := by decide +kernel
theorem dX12_file_54 : decode cX12_file 54 = .ok (.getfield 125, 3) := by decide +kernel
theorem dX12_file_57 : decode cX12_file 57 = .ok (.ireturn, 1) := by decide +kernel
theorem dX12_settle_0 : decode cX12_settle 0 = .ok (.aload_n 0, 1) := by decide +kernel
theorem dX12_settle_1 : decode cX12_settle 1 = .ok (.getfield 125, 3) := by decide +kernel
theorem dX12_settle_4 : decode cX12_settle 4 = .ok (.istore_n 1, 1) := by decide +kernel
theorem dX12_settle_5 : decode cX12_settle 5 = .ok (.aload_n 0, 1) := by decide +kernel
theorem dX12_settle_6 : decode cX12_settle 6 = .ok (.iconst 0, 1) := by decide +kernel
theorem dX12_settle_7 : decode cX12_settle 7 = .ok (.putfield 125, 3) := by decide +kernel
theorem dX12_settle_10 : decode cX12_settle 10 = .ok (.iload_n 1, 1) := by decide +kernel
theorem dX12_settle_11 : decode cX12_settle 11 = .ok (.ireturn, 1) := by decide +kernel
theorem dX12_mayStep_0 : decode cX12_mayStep 0 = .ok (.iload_n 0, 1) := by decide +kernel
theorem dX12_mayStep_1 : decode cX12_mayStep 1 = .ok (.iload_n 1, 1) := by decide +kernel
theorem dX12_mayStep_2 : decode cX12_mayStep 2 = .ok (.iadd, 1) := by decide +kernel
theorem dX12_mayStep_3 : decode cX12_mayStep 3 = .ok (.istore_n 3, 1) := by decide +kernel
theorem dX12_mayStep_4 : decode cX12_mayStep 4 = .ok (.iload_n 1, 1) := by decide +kernel
theorem dX12_mayStep_5 : decode cX12_mayStep 5 = .ok (.ifCond .eq 18, 3) := by decide +kernel
theorem dX12_mayStep_8 : decode cX12_mayStep 8 = .ok (.iload_n 3, 1) := by decide +kernel
theorem dX12_mayStep_9 : decode cX12_mayStep 9 = .ok (.iconst 0, 1) := by decide +kernel
theorem dX12_mayStep_10 : decode cX12_mayStep 10 = .ok (.bipush 9, 2) := by decide +kernel
theorem dX12_mayStep_12 : decode cX12_mayStep 12 = .ok (.invokestatic 83, 3) := by decide +kernel
theorem dX12_mayStep_15 : decode cX12_mayStep 15 = .ok (.ifCond .eq 12, 3) := by decide +kernel
theorem dX12_mayStep_18 : decode cX12_mayStep 18 = .ok (.iload_n 3, 1) := by decide +kernel
theorem dX12_mayStep_19 : decode cX12_mayStep 19 = .ok (.iload_n 2, 1) := by decide +kernel
theorem dX12_mayStep_20 : decode cX12_mayStep 20 = .ok (.if_icmp .eq 7, 3) := by decide +kernel
theorem dX12_mayStep_23 : decode cX12_mayStep 23 = .ok (.iconst 1, 1) := by decide +kernel
theorem dX12_mayStep_24 : decode cX12_mayStep 24 = .ok (.goto 4, 3) := by decide +kernel
theorem dX12_mayStep_27 : decode cX12_mayStep 27 = .ok (.iconst 0, 1) := by decide +kernel
theorem dX12_mayStep_28 : decode cX12_mayStep 28 = .ok (.ireturn, 1) := by decide +kernel
theorem dX12_behind_0 : decode cX12_behind 0 = .ok (.aload_n 0, 1) := by decide +kernel
theorem dX12_behind_1 : decode cX12_behind 1 = .ok (.aload_n 0, 1) := by decide +kernel
theorem dX12_behind_2 : decode cX12_behind 2 = .ok (.iload_n 1, 1) := by decide +kernel
theorem dX12_behind_3 : decode cX12_behind 3 = .ok (.iload_n 3, 1) := by decide +kernel
theorem dX12_behind_4 : decode cX12_behind 4 = .ok (.iload 4, 2) := by decide +kernel
theorem dX12_behind_6 : decode cX12_behind 6 = .ok (.invokevirtual 152, 3) := by decide +kernel
theorem dX12_behind_9 : decode cX12_behind 9 = .ok (.aload_n 0, 1) := by decide +kernel
theorem dX12_behind_10 : decode cX12_behind 10 = .ok (.iload_n 2, 1) := by decide +kernel
theorem dX12_behind_11 : decode cX12_behind 11 = .ok (.iload_n 3, 1) := by decide +kernel
theorem dX12_behind_12 : decode cX12_behind 12 = .ok (.iload 5, 2) := by decide +kernel
theorem dX12_behind_14 : decode cX12_behind 14 = .ok (.invokevirtual 152, 3) := by decide +kernel
theorem dX12_behind_17 : decode cX12_behind 17 = .ok (.invokevirtual 165, 3) := by decide +kernel
theorem dX12_behind_20 : decode cX12_behind 20 = .ok (.aload_n 0, 1) := by decide +kernel
theorem dX12_behind_21 : decode cX12_behind 21 = .ok (.getfield 44, 3) := by decide +kernel
theorem dX12_behind_24 : decode cX12_behind 24 = .ok (.bipush 10, 2) := by decide +kernel
theorem dX12_behind_26 : decode cX12_behind 26 = .ok (.iload 4, 2) := by decide +kernel
theorem dX12_behind_28 : decode cX12_behind 28 = .ok (.imul, 1) := by decide +kernel
theorem dX12_behind_29 : decode cX12_behind 29 = .ok (.iload 5, 2) := by decide +kernel
theorem dX12_behind_31 : decode cX12_behind 31 = .ok (.iadd, 1) := by decide +kernel
theorem dX12_behind_32 : decode cX12_behind 32 = .ok (.iaload, 1) := by decide +kernel
theorem dX12_behind_33 : decode cX12_behind 33 = .ok (.iadd, 1) := by decide +kernel
theorem dX12_behind_34 : decode cX12_behind 34 = .ok (.ireturn, 1) := by decide +kernel
theorem dX12_answered_0 : decode cX12_answered 0 = .ok (.ldc 189, 2) := by decide +kernel
theorem dX12_answered_2 : decode cX12_answered 2 = .ok (.istore 6, 2) := by decide +kernel
theorem dX12_answered_4 : decode cX12_answered 4 = .ok (.iconst (-1), 1) := by decide +kernel
theorem dX12_answered_5 : decode cX12_answered 5 = .ok (.istore 7, 2) := by decide +kernel
theorem dX12_answered_7 : decode cX12_answered 7 = .ok (.iload 7, 2) := by decide +kernel
theorem dX12_answered_9 : decode cX12_answered 9 = .ok (.iconst 1, 1) := by decide +kernel
theorem dX12_answered_10 : decode cX12_answered 10 = .ok (.if_icmp .gt 53, 3) := by decide +kernel
theorem dX12_answered_13 : decode cX12_answered 13 = .ok (.iload 5, 2) := by decide +kernel
theorem dX12_answered_15 : decode cX12_answered 15 = .ok (.iload 7, 2) := by decide +kernel
theorem dX12_answered_17 : decode cX12_answered 17 = .ok (.iload 4, 2) := by decide +kernel
theorem dX12_answered_19 : decode cX12_answered 19 = .ok (.invokestatic 190, 3) := by decide +kernel
theorem dX12_answered_22 : decode cX12_answered 22 = .ok (.ifCond .eq 35, 3) := by decide +kernel
theorem dX12_answered_25 : decode cX12_answered 25 = .ok (.aload_n 0, 1) := by decide +kernel
theorem dX12_answered_26 : decode cX12_answered 26 = .ok (.iload_n 1, 1) := by decide +kernel
theorem dX12_answered_27 : decode cX12_answered 27 = .ok (.iload_n 2, 1) := by decide +kernel
theorem dX12_answered_28 : decode cX12_answered 28 = .ok (.iload_n 3, 1) := by decide +kernel
theorem dX12_answered_29 : decode cX12_answered 29 = .ok (.iload 4, 2) := by decide +kernel
theorem dX12_answered_31 : decode cX12_answered 31 = .ok (.iload 5, 2) := by decide +kernel
theorem dX12_answered_33 : decode cX12_answered 33 = .ok (.iload 7, 2) := by decide +kernel
theorem dX12_answered_35 : decode cX12_answered 35 = .ok (.iadd, 1) := by decide +kernel
theorem dX12_answered_36 : decode cX12_answered 36 = .ok (.invokevirtual 193, 3) := by decide +kernel
theorem dX12_answered_39 : decode cX12_answered 39 = .ok (.istore 8, 2) := by decide +kernel
theorem dX12_answered_41 : decode cX12_answered 41 = .ok (.iload 8, 2) := by decide +kernel
theorem dX12_answered_43 : decode cX12_answered 43 = .ok (.iload 6, 2) := by decide +kernel
theorem dX12_answered_45 : decode cX12_answered 45 = .ok (.if_icmp .ge 8, 3) := by decide +kernel
theorem dX12_answered_48 : decode cX12_answered 48 = .ok (.iload 8, 2) := by decide +kernel
theorem dX12_answered_50 : decode cX12_answered 50 = .ok (.goto 5, 3) := by decide +kernel
theorem dX12_answered_53 : decode cX12_answered 53 = .ok (.iload 6, 2) := by decide +kernel
theorem dX12_answered_55 : decode cX12_answered 55 = .ok (.istore 6, 2) := by decide +kernel
theorem dX12_answered_57 : decode cX12_answered 57 = .ok (.iinc 7 1, 3) := by decide +kernel
theorem dX12_answered_60 : decode cX12_answered 60 = .ok (.goto (-53), 3) := by decide +kernel
theorem dX12_answered_63 : decode cX12_answered 63 = .ok (.iload 6, 2) := by decide +kernel
theorem dX12_answered_65 : decode cX12_answered 65 = .ok (.ireturn, 1) := by decide +kernel
theorem dX12_bestFrom_0 : decode cX12_bestFrom 0 = .ok (.ldc 197, 2) := by decide +kernel
theorem dX12_bestFrom_2 : decode cX12_bestFrom 2 = .ok (.istore 6, 2) := by decide +kernel
theorem dX12_bestFrom_4 : decode cX12_bestFrom 4 = .ok (.iconst (-1), 1) := by decide +kernel
theorem dX12_bestFrom_5 : decode cX12_bestFrom 5 = .ok (.istore 7, 2) := by decide +kernel
theorem dX12_bestFrom_7 : decode cX12_bestFrom 7 = .ok (.iload 7, 2) := by decide +kernel
theorem dX12_bestFrom_9 : decode cX12_bestFrom 9 = .ok (.iconst 1, 1) := by decide +kernel
theorem dX12_bestFrom_10 : decode cX12_bestFrom 10 = .ok (.if_icmp .gt 53, 3) := by decide +kernel
theorem dX12_bestFrom_13 : decode cX12_bestFrom 13 = .ok (.iload 4, 2) := by decide +kernel
theorem dX12_bestFrom_15 : decode cX12_bestFrom 15 = .ok (.iload 7, 2) := by decide +kernel
theorem dX12_bestFrom_17 : decode cX12_bestFrom 17 = .ok (.iload 5, 2) := by decide +kernel
theorem dX12_bestFrom_19 : decode cX12_bestFrom 19 = .ok (.invokestatic 190, 3) := by decide +kernel
theorem dX12_bestFrom_22 : decode cX12_bestFrom 22 = .ok (.ifCond .eq 35, 3) := by decide +kernel
theorem dX12_bestFrom_25 : decode cX12_bestFrom 25 = .ok (.aload_n 0, 1) := by decide +kernel
theorem dX12_bestFrom_26 : decode cX12_bestFrom 26 = .ok (.iload_n 1, 1) := by decide +kernel
theorem dX12_bestFrom_27 : decode cX12_bestFrom 27 = .ok (.iload_n 2, 1) := by decide +kernel
theorem dX12_bestFrom_28 : decode cX12_bestFrom 28 = .ok (.iload_n 3, 1) := by decide +kernel
theorem dX12_bestFrom_29 : decode cX12_bestFrom 29 = .ok (.iload 4, 2) := by decide +kernel
theorem dX12_bestFrom_31 : decode cX12_bestFrom 31 = .ok (.iload 7, 2) := by decide +kernel
theorem dX12_bestFrom_33 : decode cX12_bestFrom 33 = .ok (.iadd, 1) := by decide +kernel
theorem dX12_bestFrom_34 : decode cX12_bestFrom 34 = .ok (.iload 5, 2) := by decide +kernel
theorem dX12_bestFrom_36 : decode cX12_bestFrom 36 = .ok (.invokevirtual 198, 3) := by decide +kernel
theorem dX12_bestFrom_39 : decode cX12_bestFrom 39 = .ok (.istore 8, 2) := by decide +kernel
theorem dX12_bestFrom_41 : decode cX12_bestFrom 41 = .ok (.iload 8, 2) := by decide +kernel
theorem dX12_bestFrom_43 : decode cX12_bestFrom 43 = .ok (.iload 6, 2) := by decide +kernel
theorem dX12_bestFrom_45 : decode cX12_bestFrom 45 = .ok (.if_icmp .le 8, 3) := by decide +kernel
theorem dX12_bestFrom_48 : decode cX12_bestFrom 48 = .ok (.iload 8, 2) := by decide +kernel
theorem dX12_bestFrom_50 : decode cX12_bestFrom 50 = .ok (.goto 5, 3) := by decide +kernel
theorem dX12_bestFrom_53 : decode cX12_bestFrom 53 = .ok (.iload 6, 2) := by decide +kernel
theorem dX12_bestFrom_55 : decode cX12_bestFrom 55 = .ok (.istore 6, 2) := by decide +kernel
theorem dX12_bestFrom_57 : decode cX12_bestFrom 57 = .ok (.iinc 7 1, 3) := by decide +kernel
theorem dX12_bestFrom_60 : decode cX12_bestFrom 60 = .ok (.goto (-53), 3) := by decide +kernel
theorem dX12_bestFrom_63 : decode cX12_bestFrom 63 = .ok (.iload 6, 2) := by decide +kernel
theorem dX12_bestFrom_65 : decode cX12_bestFrom 65 = .ok (.ireturn, 1) := by decide +kernel
theorem dX12_layGame_0 : decode cX12_layGame 0 = .ok (.iconst 0, 1) := by decide +kernel
theorem dX12_layGame_1 : decode cX12_layGame 1 = .ok (.istore 4, 2) := by decide +kernel
theorem dX12_layGame_3 : decode cX12_layGame 3 = .ok (.iload 4, 2) := by decide +kernel
theorem dX12_layGame_5 : decode cX12_layGame 5 = .ok (.bipush 100, 2) := by decide +kernel
theorem dX12_layGame_7 : decode cX12_layGame 7 = .ok (.if_icmp .ge 17, 3) := by decide +kernel
theorem dX12_layGame_10 : decode cX12_layGame 10 = .ok (.aload_n 0, 1) := by decide +kernel
theorem dX12_layGame_11 : decode cX12_layGame 11 = .ok (.getfield 44, 3) := by decide +kernel
theorem dX12_layGame_14 : decode cX12_layGame 14 = .ok (.iload 4, 2) := by decide +kernel
theorem dX12_layGame_16 : decode cX12_layGame 16 = .ok (.iconst 0, 1) := by decide +kernel
theorem dX12_layGame_17 : decode cX12_layGame 17 = .ok (.iastore, 1) := by decide +kernel
theorem dX12_layGame_18 : decode cX12_layGame 18 = .ok (.iinc 4 1, 3) := by decide +kernel
theorem dX12_layGame_21 : decode cX12_layGame 21 = .ok (.goto (-18), 3) := by decide +kernel
theorem dX12_layGame_24 : decode cX12_layGame 24 = .ok (.iload_n 3, 1) := by decide +kernel
theorem dX12_layGame_25 : decode cX12_layGame 25 = .ok (.iconst 1, 1) := by decide +kernel
theorem dX12_layGame_26 : decode cX12_layGame 26 = .ok (.isub, 1) := by decide +kernel
theorem dX12_layGame_27 : decode cX12_layGame 27 = .ok (.istore 4, 2) := by decide +kernel
theorem dX12_layGame_29 : decode cX12_layGame 29 = .ok (.iload 4, 2) := by decide +kernel
theorem dX12_layGame_31 : decode cX12_layGame 31 = .ok (.ifCond .le 104, 3) := by decide +kernel
theorem dX12_layGame_34 : decode cX12_layGame 34 = .ok (.iconst 0, 1) := by decide +kernel
theorem dX12_layGame_35 : decode cX12_layGame 35 = .ok (.istore 5, 2) := by decide +kernel
theorem dX12_layGame_37 : decode cX12_layGame 37 = .ok (.iload 5, 2) := by decide +kernel
theorem dX12_layGame_39 : decode cX12_layGame 39 = .ok (.bipush 10, 2) := by decide +kernel
theorem dX12_layGame_41 : decode cX12_layGame 41 = .ok (.if_icmp .ge 58, 3) := by decide +kernel
theorem dX12_layGame_44 : decode cX12_layGame 44 = .ok (.iconst 0, 1) := by decide +kernel
theorem dX12_layGame_45 : decode cX12_layGame 45 = .ok (.istore 6, 2) := by decide +kernel
theorem dX12_layGame_47 : decode cX12_layGame 47 = .ok (.iload 6, 2) := by decide +kernel
theorem dX12_layGame_49 : decode cX12_layGame 49 = .ok (.bipush 10, 2) := by decide +kernel
theorem dX12_layGame_51 : decode cX12_layGame 51 = .ok (.if_icmp .ge 42, 3) := by decide +kernel
theorem dX12_layGame_54 : decode cX12_layGame 54 = .ok (.aload_n 0, 1) := by decide +kernel
theorem dX12_layGame_55 : decode cX12_layGame 55 = .ok (.getfield 47, 3) := by decide +kernel
theorem dX12_layGame_58 : decode cX12_layGame 58 = .ok (.bipush 10, 2) := by decide +kernel
theorem dX12_layGame_60 : decode cX12_layGame 60 = .ok (.iload 5, 2) := by decide +kernel
theorem dX12_layGame_62 : decode cX12_layGame 62 = .ok (.imul, 1) := by decide +kernel
theorem dX12_layGame_63 : decode cX12_layGame 63 = .ok (.iload 6, 2) := by decide +kernel
theorem dX12_layGame_65 : decode cX12_layGame 65 = .ok (.iadd, 1) := by decide +kernel
theorem dX12_layGame_66 : decode cX12_layGame 66 = .ok (.aload_n 0, 1) := by decide +kernel
theorem dX12_layGame_67 : decode cX12_layGame 67 = .ok (.iload_n 1, 1) := by decide +kernel
theorem dX12_layGame_68 : decode cX12_layGame 68 = .ok (.iload_n 2, 1) := by decide +kernel
theorem dX12_layGame_69 : decode cX12_layGame 69 = .ok (.aload_n 0, 1) := by decide +kernel
theorem dX12_layGame_70 : decode cX12_layGame 70 = .ok (.getfield 119, 3) := by decide +kernel
theorem dX12_layGame_73 : decode cX12_layGame 73 = .ok (.iload 4, 2) := by decide +kernel
theorem dX12_layGame_75 : decode cX12_layGame 75 = .ok (.iadd, 1) := by decide +kernel
theorem dX12_layGame_76 : decode cX12_layGame 76 = .ok (.bipush 13, 2) := by decide +kernel
theorem dX12_layGame_78 : decode cX12_layGame 78 = .ok (.irem, 1) := by decide +kernel
theorem dX12_layGame_79 : decode cX12_layGame 79 = .ok (.iload 5, 2) := by decide +kernel
theorem dX12_layGame_81 : decode cX12_layGame 81 = .ok (.iload 6, 2) := by decide +kernel
theorem dX12_layGame_83 : decode cX12_layGame 83 = .ok (.invokevirtual 201, 3) := by decide +kernel
theorem dX12_layGame_86 : decode cX12_layGame 86 = .ok (.iastore, 1) := by decide +kernel
theorem dX12_layGame_87 : decode cX12_layGame 87 = .ok (.iinc 6 1, 3) := by decide +kernel
theorem dX12_layGame_90 : decode cX12_layGame 90 = .ok (.goto (-43), 3) := by decide +kernel
theorem dX12_layGame_93 : decode cX12_layGame 93 = .ok (.iinc 5 1, 3) := by decide +kernel
theorem dX12_layGame_96 : decode cX12_layGame 96 = .ok (.goto (-59), 3) := by decide +kernel
theorem dX12_layGame_99 : decode cX12_layGame 99 = .ok (.iconst 0, 1) := by decide +kernel
theorem dX12_layGame_100 : decode cX12_layGame 100 = .ok (.istore 5, 2) := by decide +kernel
theorem dX12_layGame_102 : decode cX12_layGame 102 = .ok (.iload 5, 2) := by decide +kernel
theorem dX12_layGame_104 : decode cX12_layGame 104 = .ok (.bipush 100, 2) := by decide +kernel
theorem dX12_layGame_106 : decode cX12_layGame 106 = .ok (.if_icmp .ge 23, 3) := by decide +kernel
theorem dX12_layGame_109 : decode cX12_layGame 109 = .ok (.aload_n 0, 1) := by decide +kernel
theorem dX12_layGame_110 : decode cX12_layGame 110 = .ok (.getfield 44, 3) := by decide +kernel
theorem dX12_layGame_113 : decode cX12_layGame 113 = .ok (.iload 5, 2) := by decide +kernel
theorem dX12_layGame_115 : decode cX12_layGame 115 = .ok (.aload_n 0, 1) := by decide +kernel
theorem dX12_layGame_116 : decode cX12_layGame 116 = .ok (.getfield 47, 3) := by decide +kernel
theorem dX12_layGame_119 : decode cX12_layGame 119 = .ok (.iload 5, 2) := by decide +kernel
theorem dX12_layGame_121 : decode cX12_layGame 121 = .ok (.iaload, 1) := by decide +kernel
theorem dX12_layGame_122 : decode cX12_layGame 122 = .ok (.iastore, 1) := by decide +kernel
theorem dX12_layGame_123 : decode cX12_layGame 123 = .ok (.iinc 5 1, 3) := by decide +kernel
theorem dX12_layGame_126 : decode cX12_layGame 126 = .ok (.goto (-24), 3) := by decide +kernel
theorem dX12_layGame_129 : decode cX12_layGame 129 = .ok (.iinc 4 (-1), 3) := by decide +kernel
theorem dX12_layGame_132 : decode cX12_layGame 132 = .ok (.goto (-103), 3) := by decide +kernel
theorem dX12_layGame_135 : decode cX12_layGame 135 = .ok (.return_, 1) := by decide +kernel
theorem dX12_gameNow_0 : decode cX12_gameNow 0 = .ok (.aload_n 0, 1) := by decide +kernel
theorem dX12_gameNow_1 : decode cX12_gameNow 1 = .ok (.iload_n 1, 1) := by decide +kernel
theorem dX12_gameNow_2 : decode cX12_gameNow 2 = .ok (.iload_n 2, 1) := by decide +kernel
theorem dX12_gameNow_3 : decode cX12_gameNow 3 = .ok (.iload_n 3, 1) := by decide +kernel
theorem dX12_gameNow_4 : decode cX12_gameNow 4 = .ok (.invokevirtual 204, 3) := by decide +kernel
theorem dX12_gameNow_7 : decode cX12_gameNow 7 = .ok (.aload_n 0, 1) := by decide +kernel
theorem dX12_gameNow_8 : decode cX12_gameNow 8 = .ok (.getfield 19, 3) := by decide +kernel
theorem dX12_gameNow_11 : decode cX12_gameNow 11 = .ok (.iload_n 1, 1) := by decide +kernel
theorem dX12_gameNow_12 : decode cX12_gameNow 12 = .ok (.iaload, 1) := by decide +kernel
theorem dX12_gameNow_13 : decode cX12_gameNow 13 = .ok (.istore 5, 2) := by decide +kernel
theorem dX12_gameNow_15 : decode cX12_gameNow 15 = .ok (.aload_n 0, 1) := by decide +kernel
theorem dX12_gameNow_16 : decode cX12_gameNow 16 = .ok (.getfield 19, 3) := by decide +kernel
theorem dX12_gameNow_19 : decode cX12_gameNow 19 = .ok (.iload_n 2, 1) := by decide +kernel
theorem dX12_gameNow_20 : decode cX12_gameNow 20 = .ok (.iaload, 1) := by decide +kernel
theorem dX12_gameNow_21 : decode cX12_gameNow 21 = .ok (.istore 6, 2) := by decide +kernel
theorem dX12_gameNow_23 : decode cX12_gameNow 23 = .ok (.aload_n 0, 1) := by decide +kernel
theorem dX12_gameNow_24 : decode cX12_gameNow 24 = .ok (.iload_n 1, 1) := by decide +kernel
theorem dX12_gameNow_25 : decode cX12_gameNow 25 = .ok (.iload_n 2, 1) := by decide +kernel
theorem dX12_gameNow_26 : decode cX12_gameNow 26 = .ok (.aload_n 0, 1) := by decide +kernel
theorem dX12_gameNow_27 : decode cX12_gameNow 27 = .ok (.getfield 119, 3) := by decide +kernel
theorem dX12_gameNow_30 : decode cX12_gameNow 30 = .ok (.iload 5, 2) := by decide +kernel
theorem dX12_gameNow_32 : decode cX12_gameNow 32 = .ok (.iload 6, 2) := by decide +kernel
theorem dX12_gameNow_34 : decode cX12_gameNow 34 = .ok (.invokevirtual 201, 3) := by decide +kernel
theorem dX12_gameNow_37 : decode cX12_gameNow 37 = .ok (.istore 7, 2) := by decide +kernel
theorem dX12_gameNow_39 : decode cX12_gameNow 39 = .ok (.iload 4, 2) := by decide +kernel
theorem dX12_gameNow_41 : decode cX12_gameNow 41 = .ok (.ifCond .ne 10, 3) := by decide +kernel
theorem dX12_gameNow_44 : decode cX12_gameNow 44 = .ok (.iload 7, 2) := by decide +kernel
theorem dX12_gameNow_46 : decode cX12_gameNow 46 = .ok (.sipush 500, 3) := by decide +kernel
theorem dX12_gameNow_49 : decode cX12_gameNow 49 = .ok (.iadd, 1) := by decide +kernel
theorem dX12_gameNow_50 : decode cX12_gameNow 50 = .ok (.ireturn, 1) := by decide +kernel
theorem dX12_gameNow_51 : decode cX12_gameNow 51 = .ok (.iconst (-1), 1) := by decide +kernel
theorem dX12_gameNow_52 : decode cX12_gameNow 52 = .ok (.istore 8, 2) := by decide +kernel
theorem dX12_gameNow_54 : decode cX12_gameNow 54 = .ok (.iload 5, 2) := by decide +kernel
theorem dX12_gameNow_56 : decode cX12_gameNow 56 = .ok (.iload 8, 2) := by decide +kernel
theorem dX12_gameNow_58 : decode cX12_gameNow 58 = .ok (.iload 6, 2) := by decide +kernel
theorem dX12_gameNow_60 : decode cX12_gameNow 60 = .ok (.invokestatic 190, 3) := by decide +kernel
theorem dX12_gameNow_63 : decode cX12_gameNow 63 = .ok (.ifCond .eq 25, 3) := by decide +kernel
theorem dX12_gameNow_66 : decode cX12_gameNow 66 = .ok (.aload_n 0, 1) := by decide +kernel
theorem dX12_gameNow_67 : decode cX12_gameNow 67 = .ok (.iload_n 1, 1) := by decide +kernel
theorem dX12_gameNow_68 : decode cX12_gameNow 68 = .ok (.iload_n 2, 1) := by decide +kernel
theorem dX12_gameNow_69 : decode cX12_gameNow 69 = .ok (.aload_n 0, 1) := by decide +kernel
theorem dX12_gameNow_70 : decode cX12_gameNow 70 = .ok (.getfield 119, 3) := by decide +kernel
theorem dX12_gameNow_73 : decode cX12_gameNow 73 = .ok (.iload 5, 2) := by decide +kernel
theorem dX12_gameNow_75 : decode cX12_gameNow 75 = .ok (.iload 8, 2) := by decide +kernel
theorem dX12_gameNow_77 : decode cX12_gameNow 77 = .ok (.iadd, 1) := by decide +kernel
theorem dX12_gameNow_78 : decode cX12_gameNow 78 = .ok (.iload 6, 2) := by decide +kernel
theorem dX12_gameNow_80 : decode cX12_gameNow 80 = .ok (.invokevirtual 198, 3) := by decide +kernel
theorem dX12_gameNow_83 : decode cX12_gameNow 83 = .ok (.iload 7, 2) := by decide +kernel
theorem dX12_gameNow_85 : decode cX12_gameNow 85 = .ok (.if_icmp .eq 9, 3) := by decide +kernel
theorem dX12_gameNow_88 : decode cX12_gameNow 88 = .ok (.iinc 8 1, 3) := by decide +kernel
theorem dX12_gameNow_91 : decode cX12_gameNow 91 = .ok (.goto (-37), 3) := by decide +kernel
theorem dX12_gameNow_94 : decode cX12_gameNow 94 = .ok (.iload 8, 2) := by decide +kernel
theorem dX12_gameNow_96 : decode cX12_gameNow 96 = .ok (.iconst 1, 1) := by decide +kernel
theorem dX12_gameNow_97 : decode cX12_gameNow 97 = .ok (.iadd, 1) := by decide +kernel
theorem dX12_gameNow_98 : decode cX12_gameNow 98 = .ok (.ireturn, 1) := by decide +kernel
theorem dX12_game_0 : decode cX12_game 0 = .ok (.aload_n 0, 1) := by decide +kernel
theorem dX12_game_1 : decode cX12_game 1 = .ok (.iload_n 1, 1) := by decide +kernel
theorem dX12_game_2 : decode cX12_game 2 = .ok (.iload_n 2, 1) := by decide +kernel
theorem dX12_game_3 : decode cX12_game 3 = .ok (.invokevirtual 183, 3) := by decide +kernel
theorem dX12_game_6 : decode cX12_game 6 = .ok (.ifCond .ne 6, 3) := by decide +kernel
theorem dX12_game_9 : decode cX12_game 9 = .ok (.bipush (-101), 2) := by decide +kernel
theorem dX12_game_11 : decode cX12_game 11 = .ok (.ireturn, 1) := by decide +kernel
theorem dX12_game_12 : decode cX12_game 12 = .ok (.iload_n 3, 1) := by decide +kernel
theorem dX12_game_13 : decode cX12_game 13 = .ok (.iconst 1, 1) := by decide +kernel
theorem dX12_game_14 : decode cX12_game 14 = .ok (.iconst 4, 1) := by decide +kernel
theorem dX12_game_15 : decode cX12_game 15 = .ok (.invokestatic 83, 3) := by decide +kernel
theorem dX12_game_18 : decode cX12_game 18 = .ok (.ifCond .eq 25, 3) := by decide +kernel
theorem dX12_game_21 : decode cX12_game 21 = .ok (.iload 4, 2) := by decide +kernel
theorem dX12_game_23 : decode cX12_game 23 = .ok (.iconst 0, 1) := by decide +kernel
theorem dX12_game_24 : decode cX12_game 24 = .ok (.iconst 1, 1) := by decide +kernel
theorem dX12_game_25 : decode cX12_game 25 = .ok (.invokestatic 83, 3) := by decide +kernel
theorem dX12_game_28 : decode cX12_game 28 = .ok (.ifCond .eq 15, 3) := by decide +kernel
theorem dX12_game_31 : decode cX12_game 31 = .ok (.aload_n 0, 1) := by decide +kernel
theorem dX12_game_32 : decode cX12_game 32 = .ok (.iload_n 1, 1) := by decide +kernel
theorem dX12_game_33 : decode cX12_game 33 = .ok (.iload_n 2, 1) := by decide +kernel
theorem dX12_game_34 : decode cX12_game 34 = .ok (.iload_n 3, 1) := by decide +kernel
theorem dX12_game_35 : decode cX12_game 35 = .ok (.iload 4, 2) := by decide +kernel
theorem dX12_game_37 : decode cX12_game 37 = .ok (.invokevirtual 208, 3) := by decide +kernel
theorem dX12_game_40 : decode cX12_game 40 = .ok (.goto 5, 3) := by decide +kernel
theorem dX12_game_43 : decode cX12_game 43 = .ok (.bipush (-102), 2) := by decide +kernel
theorem dX12_game_45 : decode cX12_game 45 = .ok (.ireturn, 1) := by decide +kernel
theorem dX12_layGood_0 : decode cX12_layGood 0 = .ok (.iconst 0, 1) := by decide +kernel
theorem dX12_layGood_1 : decode cX12_layGood 1 = .ok (.istore_n 1, 1) := by decide +kernel
theorem dX12_layGood_2 : decode cX12_layGood 2 = .ok (.iload_n 1, 1) := by decide +kernel
theorem dX12_layGood_3 : decode cX12_layGood 3 = .ok (.aload_n 0, 1) := by decide +kernel
theorem dX12_layGood_4 : decode cX12_layGood 4 = .ok (.getfield 125, 3) := by decide +kernel
theorem dX12_layGood_7 : decode cX12_layGood 7 = .ok (.if_icmp .ge 66, 3) := by decide +kernel
theorem dX12_layGood_10 : decode cX12_layGood 10 = .ok (.aload_n 0, 1) := by decide +kernel
theorem dX12_layGood_11 : decode cX12_layGood 11 = .ok (.getfield 50, 3) := by decide +kernel
theorem dX12_layGood_14 : decode cX12_layGood 14 = .ok (.iload_n 1, 1) := by decide +kernel
theorem dX12_layGood_15 : decode cX12_layGood 15 = .ok (.iconst 0, 1) := by decide +kernel
theorem dX12_layGood_16 : decode cX12_layGood 16 = .ok (.iastore, 1) := by decide +kernel
theorem dX12_layGood_17 : decode cX12_layGood 17 = .ok (.iconst 0, 1) := by decide +kernel
theorem dX12_layGood_18 : decode cX12_layGood 18 = .ok (.istore_n 2, 1) := by decide +kernel
theorem dX12_layGood_19 : decode cX12_layGood 19 = .ok (.iload_n 2, 1) := by decide +kernel
theorem dX12_layGood_20 : decode cX12_layGood 20 = .ok (.bipush 13, 2) := by decide +kernel
theorem dX12_layGood_22 : decode cX12_layGood 22 = .ok (.if_icmp .ge 45, 3) := by decide +kernel
theorem dX12_layGood_25 : decode cX12_layGood 25 = .ok (.aload_n 0, 1) := by decide +kernel
theorem dX12_layGood_26 : decode cX12_layGood 26 = .ok (.getfield 50, 3) := by decide +kernel
theorem dX12_layGood_29 : decode cX12_layGood 29 = .ok (.iload_n 1, 1) := by decide +kernel
theorem dX12_layGood_30 : decode cX12_layGood 30 = .ok (.dup2, 1) := by decide +kernel
theorem dX12_layGood_31 : decode cX12_layGood 31 = .ok (.iaload, 1) := by decide +kernel
theorem dX12_layGood_32 : decode cX12_layGood 32 = .ok (.aload_n 0, 1) := by decide +kernel
theorem dX12_layGood_33 : decode cX12_layGood 33 = .ok (.aload_n 0, 1) := by decide +kernel
theorem dX12_layGood_34 : decode cX12_layGood 34 = .ok (.getfield 22, 3) := by decide +kernel
theorem dX12_layGood_37 : decode cX12_layGood 37 = .ok (.iload_n 1, 1) := by decide +kernel
theorem dX12_layGood_38 : decode cX12_layGood 38 = .ok (.iaload, 1) := by decide +kernel
theorem dX12_layGood_39 : decode cX12_layGood 39 = .ok (.aload_n 0, 1) := by decide +kernel
theorem dX12_layGood_40 : decode cX12_layGood 40 = .ok (.getfield 25, 3) := by decide +kernel
theorem dX12_layGood_43 : decode cX12_layGood 43 = .ok (.iload_n 1, 1) := by decide +kernel
theorem dX12_layGood_44 : decode cX12_layGood 44 = .ok (.iaload, 1) := by decide +kernel
theorem dX12_layGood_45 : decode cX12_layGood 45 = .ok (.iload_n 2, 1) := by decide +kernel
theorem dX12_layGood_46 : decode cX12_layGood 46 = .ok (.invokevirtual 186, 3) := by decide +kernel
theorem dX12_layGood_49 : decode cX12_layGood 49 = .ok (.ifCond .le 9, 3) := by decide +kernel
theorem dX12_layGood_52 : decode cX12_layGood 52 = .ok (.iconst 1, 1) := by decide +kernel
theorem dX12_layGood_53 : decode cX12_layGood 53 = .ok (.iload_n 2, 1) := by decide +kernel
theorem dX12_layGood_54 : decode cX12_layGood 54 = .ok (.ishl, 1) := by decide +kernel
theorem dX12_layGood_55 : decode cX12_layGood 55 = .ok (.goto 4, 3) := by decide +kernel
theorem dX12_layGood_58 : decode cX12_layGood 58 = .ok (.iconst 0, 1) := by decide +kernel
theorem dX12_layGood_59 : decode cX12_layGood 59 = .ok (.ior, 1) := by decide +kernel
theorem dX12_layGood_60 : decode cX12_layGood 60 = .ok (.iastore, 1) := by decide +kernel
theorem dX12_layGood_61 : decode cX12_layGood 61 = .ok (.iinc 2 1, 3) := by decide +kernel
theorem dX12_layGood_64 : decode cX12_layGood 64 = .ok (.goto (-45), 3) := by decide +kernel
theorem dX12_layGood_67 : decode cX12_layGood 67 = .ok (.iinc 1 1, 3) := by decide +kernel
theorem dX12_layGood_70 : decode cX12_layGood 70 = .ok (.goto (-68), 3) := by decide +kernel
theorem dX12_layGood_73 : decode cX12_layGood 73 = .ok (.return_, 1) := by decide +kernel
theorem dX12_hoursFor_0 : decode cX12_hoursFor 0 = .ok (.iconst 0, 1) := by decide +kernel
theorem dX12_hoursFor_1 : decode cX12_hoursFor 1 = .ok (.istore_n 3, 1) := by decide +kernel
theorem dX12_hoursFor_2 : decode cX12_hoursFor 2 = .ok (.iconst 0, 1) := by decide +kernel
theorem dX12_hoursFor_3 : decode cX12_hoursFor 3 = .ok (.istore 4, 2) := by decide +kernel
theorem dX12_hoursFor_5 : decode cX12_hoursFor 5 = .ok (.iload 4, 2) := by decide +kernel
theorem dX12_hoursFor_7 : decode cX12_hoursFor 7 = .ok (.aload_n 0, 1) := by decide +kernel
theorem dX12_hoursFor_8 : decode cX12_hoursFor 8 = .ok (.getfield 125, 3) := by decide +kernel
theorem dX12_hoursFor_11 : decode cX12_hoursFor 11 = .ok (.if_icmp .ge 32, 3) := by decide +kernel
theorem dX12_hoursFor_14 : decode cX12_hoursFor 14 = .ok (.iload_n 3, 1) := by decide +kernel
theorem dX12_hoursFor_15 : decode cX12_hoursFor 15 = .ok (.iload_n 1, 1) := by decide +kernel
theorem dX12_hoursFor_16 : decode cX12_hoursFor 16 = .ok (.iload 4, 2) := by decide +kernel
theorem dX12_hoursFor_18 : decode cX12_hoursFor 18 = .ok (.invokestatic 156, 3) := by decide +kernel
theorem dX12_hoursFor_21 : decode cX12_hoursFor 21 = .ok (.ifCond .eq 13, 3) := by decide +kernel
theorem dX12_hoursFor_24 : decode cX12_hoursFor 24 = .ok (.aload_n 0, 1) := by decide +kernel
theorem dX12_hoursFor_25 : decode cX12_hoursFor 25 = .ok (.getfield 50, 3) := by decide +kernel
theorem dX12_hoursFor_28 : decode cX12_hoursFor 28 = .ok (.iload 4, 2) := by decide +kernel
theorem dX12_hoursFor_30 : decode cX12_hoursFor 30 = .ok (.iaload, 1) := by decide +kernel
theorem dX12_hoursFor_31 : decode cX12_hoursFor 31 = .ok (.goto 4, 3) := by decide +kernel
theorem dX12_hoursFor_34 : decode cX12_hoursFor 34 = .ok (.iconst 0, 1) := by decide +kernel
theorem dX12_hoursFor_35 : decode cX12_hoursFor 35 = .ok (.ior, 1) := by decide +kernel
theorem dX12_hoursFor_36 : decode cX12_hoursFor 36 = .ok (.istore_n 3, 1) := by decide +kernel
theorem dX12_hoursFor_37 : decode cX12_hoursFor 37 = .ok (.iinc 4 1, 3) := by decide +kernel
theorem dX12_hoursFor_40 : decode cX12_hoursFor 40 = .ok (.goto (-35), 3) := by decide +kernel
theorem dX12_hoursFor_43 : decode cX12_hoursFor 43 = .ok (.iload_n 3, 1) := by decide +kernel
theorem dX12_hoursFor_44 : decode cX12_hoursFor 44 = .ok (.iload_n 2, 1) := by decide +kernel
theorem dX12_hoursFor_45 : decode cX12_hoursFor 45 = .ok (.iconst (-1), 1) := by decide +kernel
theorem dX12_hoursFor_46 : decode cX12_hoursFor 46 = .ok (.ixor, 1) := by decide +kernel
theorem dX12_hoursFor_47 : decode cX12_hoursFor 47 = .ok (.iand, 1) := by decide +kernel
theorem dX12_hoursFor_48 : decode cX12_hoursFor 48 = .ok (.invokestatic 212, 3) := by decide +kernel
theorem dX12_hoursFor_51 : decode cX12_hoursFor 51 = .ok (.ireturn, 1) := by decide +kernel
theorem dX12_canBe_0 : decode cX12_canBe 0 = .ok (.iconst 1, 1) := by decide +kernel
theorem dX12_canBe_1 : decode cX12_canBe 1 = .ok (.istore_n 3, 1) := by decide +kernel
theorem dX12_canBe_2 : decode cX12_canBe 2 = .ok (.iload_n 1, 1) := by decide +kernel
theorem dX12_canBe_3 : decode cX12_canBe 3 = .ok (.istore 4, 2) := by decide +kernel
theorem dX12_canBe_5 : decode cX12_canBe 5 = .ok (.iload 4, 2) := by decide +kernel
theorem dX12_canBe_7 : decode cX12_canBe 7 = .ok (.ifCond .le 39, 3) := by decide +kernel
theorem dX12_canBe_10 : decode cX12_canBe 10 = .ok (.iload_n 3, 1) := by decide +kernel
theorem dX12_canBe_11 : decode cX12_canBe 11 = .ok (.ifCond .eq 22, 3) := by decide +kernel
theorem dX12_canBe_14 : decode cX12_canBe 14 = .ok (.aload_n 0, 1) := by decide +kernel
theorem dX12_canBe_15 : decode cX12_canBe 15 = .ok (.iload 4, 2) := by decide +kernel
theorem dX12_canBe_17 : decode cX12_canBe 17 = .ok (.iload_n 2, 1) := by decide +kernel
theorem dX12_canBe_18 : decode cX12_canBe 18 = .ok (.invokevirtual 215, 3) := by decide +kernel
theorem dX12_canBe_21 : decode cX12_canBe 21 = .ok (.iload 4, 2) := by decide +kernel
theorem dX12_canBe_23 : decode cX12_canBe 23 = .ok (.invokestatic 212, 3) := by decide +kernel
theorem dX12_canBe_26 : decode cX12_canBe 26 = .ok (.if_icmp .lt 7, 3) := by decide +kernel
theorem dX12_canBe_29 : decode cX12_canBe 29 = .ok (.iconst 1, 1) := by decide +kernel
theorem dX12_canBe_30 : decode cX12_canBe 30 = .ok (.goto 4, 3) := by decide +kernel
theorem dX12_canBe_33 : decode cX12_canBe 33 = .ok (.iconst 0, 1) := by decide +kernel
theorem dX12_canBe_34 : decode cX12_canBe 34 = .ok (.istore_n 3, 1) := by decide +kernel
theorem dX12_canBe_35 : decode cX12_canBe 35 = .ok (.iload 4, 2) := by decide +kernel
theorem dX12_canBe_37 : decode cX12_canBe 37 = .ok (.iconst 1, 1) := by decide +kernel
theorem dX12_canBe_38 : decode cX12_canBe 38 = .ok (.isub, 1) := by decide +kernel
theorem dX12_canBe_39 : decode cX12_canBe 39 = .ok (.iload_n 1, 1) := by decide +kernel
theorem dX12_canBe_40 : decode cX12_canBe 40 = .ok (.iand, 1) := by decide +kernel
theorem dX12_canBe_41 : decode cX12_canBe 41 = .ok (.istore 4, 2) := by decide +kernel
theorem dX12_canBe_43 : decode cX12_canBe 43 = .ok (.goto (-38), 3) := by decide +kernel
theorem dX12_canBe_46 : decode cX12_canBe 46 = .ok (.iload_n 3, 1) := by decide +kernel
theorem dX12_canBe_47 : decode cX12_canBe 47 = .ok (.ireturn, 1) := by decide +kernel
theorem dX12_restFrom_0 : decode cX12_restFrom 0 = .ok (.iconst 0, 1) := by decide +kernel
theorem dX12_restFrom_1 : decode cX12_restFrom 1 = .ok (.istore_n 3, 1) := by decide +kernel
theorem dX12_restFrom_2 : decode cX12_restFrom 2 = .ok (.iconst 0, 1) := by decide +kernel
theorem dX12_restFrom_3 : decode cX12_restFrom 3 = .ok (.istore 4, 2) := by decide +kernel
theorem dX12_restFrom_5 : decode cX12_restFrom 5 = .ok (.iload 4, 2) := by decide +kernel
theorem dX12_restFrom_7 : decode cX12_restFrom 7 = .ok (.iconst 1, 1) := by decide +kernel
theorem dX12_restFrom_8 : decode cX12_restFrom 8 = .ok (.aload_n 0, 1) := by decide +kernel
theorem dX12_restFrom_9 : decode cX12_restFrom 9 = .ok (.getfield 125, 3) := by decide +kernel
theorem dX12_restFrom_12 : decode cX12_restFrom 12 = .ok (.ishl, 1) := by decide +kernel
theorem dX12_restFrom_13 : decode cX12_restFrom 13 = .ok (.if_icmp .ge 61, 3) := by decide +kernel
theorem dX12_restFrom_16 : decode cX12_restFrom 16 = .ok (.iload 4, 2) := by decide +kernel
theorem dX12_restFrom_18 : decode cX12_restFrom 18 = .ok (.iconst 1, 1) := by decide +kernel
theorem dX12_restFrom_19 : decode cX12_restFrom 19 = .ok (.iload_n 1, 1) := by decide +kernel
theorem dX12_restFrom_20 : decode cX12_restFrom 20 = .ok (.ishl, 1) := by decide +kernel
theorem dX12_restFrom_21 : decode cX12_restFrom 21 = .ok (.iconst 1, 1) := by decide +kernel
theorem dX12_restFrom_22 : decode cX12_restFrom 22 = .ok (.isub, 1) := by decide +kernel
theorem dX12_restFrom_23 : decode cX12_restFrom 23 = .ok (.iand, 1) := by decide +kernel
theorem dX12_restFrom_24 : decode cX12_restFrom 24 = .ok (.ifCond .ne 7, 3) := by decide +kernel
theorem dX12_restFrom_27 : decode cX12_restFrom 27 = .ok (.iconst 1, 1) := by decide +kernel
theorem dX12_restFrom_28 : decode cX12_restFrom 28 = .ok (.goto 4, 3) := by decide +kernel
theorem dX12_restFrom_31 : decode cX12_restFrom 31 = .ok (.iconst 0, 1) := by decide +kernel
theorem dX12_restFrom_32 : decode cX12_restFrom 32 = .ok (.istore 5, 2) := by decide +kernel
theorem dX12_restFrom_34 : decode cX12_restFrom 34 = .ok (.iload 5, 2) := by decide +kernel
theorem dX12_restFrom_36 : decode cX12_restFrom 36 = .ok (.ifCond .eq 30, 3) := by decide +kernel
theorem dX12_restFrom_39 : decode cX12_restFrom 39 = .ok (.iload 4, 2) := by decide +kernel
theorem dX12_restFrom_41 : decode cX12_restFrom 41 = .ok (.invokestatic 212, 3) := by decide +kernel
theorem dX12_restFrom_44 : decode cX12_restFrom 44 = .ok (.iload_n 3, 1) := by decide +kernel
theorem dX12_restFrom_45 : decode cX12_restFrom 45 = .ok (.if_icmp .le 21, 3) := by decide +kernel
theorem dX12_restFrom_48 : decode cX12_restFrom 48 = .ok (.aload_n 0, 1) := by decide +kernel
theorem dX12_restFrom_49 : decode cX12_restFrom 49 = .ok (.iload 4, 2) := by decide +kernel
theorem dX12_restFrom_51 : decode cX12_restFrom 51 = .ok (.iload_n 2, 1) := by decide +kernel
theorem dX12_restFrom_52 : decode cX12_restFrom 52 = .ok (.invokevirtual 218, 3) := by decide +kernel
theorem dX12_restFrom_55 : decode cX12_restFrom 55 = .ok (.ifCond .eq 11, 3) := by decide +kernel
theorem dX12_restFrom_58 : decode cX12_restFrom 58 = .ok (.iload 4, 2) := by decide +kernel
theorem dX12_restFrom_60 : decode cX12_restFrom 60 = .ok (.invokestatic 212, 3) := by decide +kernel
theorem dX12_restFrom_63 : decode cX12_restFrom 63 = .ok (.goto 4, 3) := by decide +kernel
theorem dX12_restFrom_66 : decode cX12_restFrom 66 = .ok (.iload_n 3, 1) := by decide +kernel
theorem dX12_restFrom_67 : decode cX12_restFrom 67 = .ok (.istore_n 3, 1) := by decide +kernel
theorem dX12_restFrom_68 : decode cX12_restFrom 68 = .ok (.iinc 4 1, 3) := by decide +kernel
theorem dX12_restFrom_71 : decode cX12_restFrom 71 = .ok (.goto (-66), 3) := by decide +kernel
theorem dX12_restFrom_74 : decode cX12_restFrom 74 = .ok (.iload_n 3, 1) := by decide +kernel
theorem dX12_restFrom_75 : decode cX12_restFrom 75 = .ok (.ireturn, 1) := by decide +kernel
theorem dX12_hourFor_0 : decode cX12_hourFor 0 = .ok (.iconst 0, 1) := by decide +kernel
theorem dX12_hourFor_1 : decode cX12_hourFor 1 = .ok (.istore 4, 2) := by decide +kernel
theorem dX12_hourFor_3 : decode cX12_hourFor 3 = .ok (.aload_n 0, 1) := by decide +kernel
theorem dX12_hourFor_4 : decode cX12_hourFor 4 = .ok (.getfield 50, 3) := by decide +kernel
theorem dX12_hourFor_7 : decode cX12_hourFor 7 = .ok (.iload_n 1, 1) := by decide +kernel
theorem dX12_hourFor_8 : decode cX12_hourFor 8 = .ok (.iaload, 1) := by decide +kernel
theorem dX12_hourFor_9 : decode cX12_hourFor 9 = .ok (.iload_n 2, 1) := by decide +kernel
theorem dX12_hourFor_10 : decode cX12_hourFor 10 = .ok (.iconst (-1), 1) := by decide +kernel
theorem dX12_hourFor_11 : decode cX12_hourFor 11 = .ok (.ixor, 1) := by decide +kernel
theorem dX12_hourFor_12 : decode cX12_hourFor 12 = .ok (.iand, 1) := by decide +kernel
theorem dX12_hourFor_13 : decode cX12_hourFor 13 = .ok (.iload 4, 2) := by decide +kernel
theorem dX12_hourFor_15 : decode cX12_hourFor 15 = .ok (.invokestatic 156, 3) := by decide +kernel
theorem dX12_hourFor_18 : decode cX12_hourFor 18 = .ok (.ifCond .eq 22, 3) := by decide +kernel
theorem dX12_hourFor_21 : decode cX12_hourFor 21 = .ok (.aload_n 0, 1) := by decide +kernel
theorem dX12_hourFor_22 : decode cX12_hourFor 22 = .ok (.iload_n 1, 1) := by decide +kernel
theorem dX12_hourFor_23 : decode cX12_hourFor 23 = .ok (.iconst 1, 1) := by decide +kernel
theorem dX12_hourFor_24 : decode cX12_hourFor 24 = .ok (.iadd, 1) := by decide +kernel
theorem dX12_hourFor_25 : decode cX12_hourFor 25 = .ok (.iload_n 2, 1) := by decide +kernel
theorem dX12_hourFor_26 : decode cX12_hourFor 26 = .ok (.iconst 1, 1) := by decide +kernel
theorem dX12_hourFor_27 : decode cX12_hourFor 27 = .ok (.iload 4, 2) := by decide +kernel
theorem dX12_hourFor_29 : decode cX12_hourFor 29 = .ok (.ishl, 1) := by decide +kernel
theorem dX12_hourFor_30 : decode cX12_hourFor 30 = .ok (.ior, 1) := by decide +kernel
theorem dX12_hourFor_31 : decode cX12_hourFor 31 = .ok (.invokevirtual 221, 3) := by decide +kernel
theorem dX12_hourFor_34 : decode cX12_hourFor 34 = .ok (.iload_n 3, 1) := by decide +kernel
theorem dX12_hourFor_35 : decode cX12_hourFor 35 = .ok (.iconst 1, 1) := by decide +kernel
theorem dX12_hourFor_36 : decode cX12_hourFor 36 = .ok (.isub, 1) := by decide +kernel
theorem dX12_hourFor_37 : decode cX12_hourFor 37 = .ok (.if_icmp .eq 9, 3) := by decide +kernel
theorem dX12_hourFor_40 : decode cX12_hourFor 40 = .ok (.iinc 4 1, 3) := by decide +kernel
theorem dX12_hourFor_43 : decode cX12_hourFor 43 = .ok (.goto (-40), 3) := by decide +kernel
theorem dX12_hourFor_46 : decode cX12_hourFor 46 = .ok (.iload 4, 2) := by decide +kernel
theorem dX12_hourFor_48 : decode cX12_hourFor 48 = .ok (.ireturn, 1) := by decide +kernel
theorem dX12_layDocket_0 : decode cX12_layDocket 0 = .ok (.aload_n 0, 1) := by decide +kernel
theorem dX12_layDocket_1 : decode cX12_layDocket 1 = .ok (.invokevirtual 224, 3) := by decide +kernel
theorem dX12_layDocket_4 : decode cX12_layDocket 4 = .ok (.iconst 0, 1) := by decide +kernel
theorem dX12_layDocket_5 : decode cX12_layDocket 5 = .ok (.istore_n 1, 1) := by decide +kernel
theorem dX12_layDocket_6 : decode cX12_layDocket 6 = .ok (.iload_n 1, 1) := by decide +kernel
theorem dX12_layDocket_7 : decode cX12_layDocket 7 = .ok (.iconst 5, 1) := by decide +kernel
theorem dX12_layDocket_8 : decode cX12_layDocket 8 = .ok (.if_icmp .ge 16, 3) := by decide +kernel
theorem dX12_layDocket_11 : decode cX12_layDocket 11 = .ok (.aload_n 0, 1) := by decide +kernel
theorem dX12_layDocket_12 : decode cX12_layDocket 12 = .ok (.getfield 53, 3) := by decide +kernel
theorem dX12_layDocket_15 : decode cX12_layDocket 15 = .ok (.iload_n 1, 1) := by decide +kernel
theorem dX12_layDocket_16 : decode cX12_layDocket 16 = .ok (.iconst (-1), 1) := by decide +kernel
theorem dX12_layDocket_17 : decode cX12_layDocket 17 = .ok (.iastore, 1) := by decide +kernel
theorem dX12_layDocket_18 : decode cX12_layDocket 18 = .ok (.iinc 1 1, 3) := by decide +kernel
theorem dX12_layDocket_21 : decode cX12_layDocket 21 = .ok (.goto (-15), 3) := by decide +kernel
theorem dX12_layDocket_24 : decode cX12_layDocket 24 = .ok (.aload_n 0, 1) := by decide +kernel
theorem dX12_layDocket_25 : decode cX12_layDocket 25 = .ok (.iconst 0, 1) := by decide +kernel
theorem dX12_layDocket_26 : decode cX12_layDocket 26 = .ok (.iconst 0, 1) := by decide +kernel
theorem dX12_layDocket_27 : decode cX12_layDocket 27 = .ok (.invokevirtual 221, 3) := by decide +kernel
theorem dX12_layDocket_30 : decode cX12_layDocket 30 = .ok (.istore_n 1, 1) := by decide +kernel
theorem dX12_layDocket_31 : decode cX12_layDocket 31 = .ok (.iload_n 1, 1) := by decide +kernel
theorem dX12_layDocket_32 : decode cX12_layDocket 32 = .ok (.istore_n 2, 1) := by decide +kernel
theorem dX12_layDocket_33 : decode cX12_layDocket 33 = .ok (.iconst 0, 1) := by decide +kernel
theorem dX12_layDocket_34 : decode cX12_layDocket 34 = .ok (.istore_n 3, 1) := by decide +kernel
theorem dX12_layDocket_35 : decode cX12_layDocket 35 = .ok (.iconst 0, 1) := by decide +kernel
theorem dX12_layDocket_36 : decode cX12_layDocket 36 = .ok (.istore 4, 2) := by decide +kernel
theorem dX12_layDocket_38 : decode cX12_layDocket 38 = .ok (.iload 4, 2) := by decide +kernel
theorem dX12_layDocket_40 : decode cX12_layDocket 40 = .ok (.aload_n 0, 1) := by decide +kernel
theorem dX12_layDocket_41 : decode cX12_layDocket 41 = .ok (.getfield 125, 3) := by decide +kernel
theorem dX12_layDocket_44 : decode cX12_layDocket 44 = .ok (.if_icmp .ge 52, 3) := by decide +kernel
theorem dX12_layDocket_47 : decode cX12_layDocket 47 = .ok (.aload_n 0, 1) := by decide +kernel
theorem dX12_layDocket_48 : decode cX12_layDocket 48 = .ok (.iload 4, 2) := by decide +kernel
theorem dX12_layDocket_50 : decode cX12_layDocket 50 = .ok (.iconst 1, 1) := by decide +kernel
theorem dX12_layDocket_51 : decode cX12_layDocket 51 = .ok (.iadd, 1) := by decide +kernel
theorem dX12_layDocket_52 : decode cX12_layDocket 52 = .ok (.iload_n 3, 1) := by decide +kernel
theorem dX12_layDocket_53 : decode cX12_layDocket 53 = .ok (.invokevirtual 221, 3) := by decide +kernel
theorem dX12_layDocket_56 : decode cX12_layDocket 56 = .ok (.iload_n 2, 1) := by decide +kernel
theorem dX12_layDocket_57 : decode cX12_layDocket 57 = .ok (.if_icmp .ge 33, 3) := by decide +kernel
theorem dX12_layDocket_60 : decode cX12_layDocket 60 = .ok (.aload_n 0, 1) := by decide +kernel
theorem dX12_layDocket_61 : decode cX12_layDocket 61 = .ok (.getfield 53, 3) := by decide +kernel
theorem dX12_layDocket_64 : decode cX12_layDocket 64 = .ok (.iload 4, 2) := by decide +kernel
theorem dX12_layDocket_66 : decode cX12_layDocket 66 = .ok (.aload_n 0, 1) := by decide +kernel
theorem dX12_layDocket_67 : decode cX12_layDocket 67 = .ok (.iload 4, 2) := by decide +kernel
theorem dX12_layDocket_69 : decode cX12_layDocket 69 = .ok (.iload_n 3, 1) := by decide +kernel
theorem dX12_layDocket_70 : decode cX12_layDocket 70 = .ok (.iload_n 2, 1) := by decide +kernel
theorem dX12_layDocket_71 : decode cX12_layDocket 71 = .ok (.invokevirtual 227, 3) := by decide +kernel
theorem dX12_layDocket_74 : decode cX12_layDocket 74 = .ok (.iastore, 1) := by decide +kernel
theorem dX12_layDocket_75 : decode cX12_layDocket 75 = .ok (.iload_n 3, 1) := by decide +kernel
theorem dX12_layDocket_76 : decode cX12_layDocket 76 = .ok (.iconst 1, 1) := by decide +kernel
theorem dX12_layDocket_77 : decode cX12_layDocket 77 = .ok (.aload_n 0, 1) := by decide +kernel
theorem dX12_layDocket_78 : decode cX12_layDocket 78 = .ok (.getfield 53, 3) := by decide +kernel
theorem dX12_layDocket_81 : decode cX12_layDocket 81 = .ok (.iload 4, 2) := by decide +kernel
theorem dX12_layDocket_83 : decode cX12_layDocket 83 = .ok (.iaload, 1) := by decide +kernel
theorem dX12_layDocket_84 : decode cX12_layDocket 84 = .ok (.ishl, 1) := by decide +kernel
theorem dX12_layDocket_85 : decode cX12_layDocket 85 = .ok (.ior, 1) := by decide +kernel
theorem dX12_layDocket_86 : decode cX12_layDocket 86 = .ok (.istore_n 3, 1) := by decide +kernel
theorem dX12_layDocket_87 : decode cX12_layDocket 87 = .ok (.iinc 2 (-1), 3) := by decide +kernel
theorem dX12_layDocket_90 : decode cX12_layDocket 90 = .ok (.iinc 4 1, 3) := by decide +kernel
theorem dX12_layDocket_93 : decode cX12_layDocket 93 = .ok (.goto (-55), 3) := by decide +kernel
theorem dX12_layDocket_96 : decode cX12_layDocket 96 = .ok (.iload_n 1, 1) := by decide +kernel
theorem dX12_layDocket_97 : decode cX12_layDocket 97 = .ok (.ireturn, 1) := by decide +kernel
theorem dX12_docket_0 : decode cX12_docket 0 = .ok (.iload_n 1, 1) := by decide +kernel
theorem dX12_docket_1 : decode cX12_docket 1 = .ok (.ifCond .eq 17, 3) := by decide +kernel
theorem dX12_docket_4 : decode cX12_docket 4 = .ok (.iload_n 1, 1) := by decide +kernel
theorem dX12_docket_5 : decode cX12_docket 5 = .ok (.bipush 10, 2) := by decide +kernel
theorem dX12_docket_7 : decode cX12_docket 7 = .ok (.bipush 14, 2) := by decide +kernel
theorem dX12_docket_9 : decode cX12_docket 9 = .ok (.invokestatic 83, 3) := by decide +kernel
theorem dX12_docket_12 : decode cX12_docket 12 = .ok (.ifCond .ne 6, 3) := by decide +kernel
theorem dX12_docket_15 : decode cX12_docket 15 = .ok (.bipush (-102), 2) := by decide +kernel
theorem dX12_docket_17 : decode cX12_docket 17 = .ok (.ireturn, 1) := by decide +kernel
theorem dX12_docket_18 : decode cX12_docket 18 = .ok (.aload_n 0, 1) := by decide +kernel
theorem dX12_docket_19 : decode cX12_docket 19 = .ok (.getfield 116, 3) := by decide +kernel
theorem dX12_docket_22 : decode cX12_docket 22 = .ok (.ifCond .ne 6, 3) := by decide +kernel
theorem dX12_docket_25 : decode cX12_docket 25 = .ok (.bipush (-103), 2) := by decide +kernel
theorem dX12_docket_27 : decode cX12_docket 27 = .ok (.ireturn, 1) := by decide +kernel
theorem dX12_docket_28 : decode cX12_docket 28 = .ok (.aload_n 0, 1) := by decide +kernel
theorem dX12_docket_29 : decode cX12_docket 29 = .ok (.invokevirtual 230, 3) := by decide +kernel
theorem dX12_docket_32 : decode cX12_docket 32 = .ok (.istore_n 2, 1) := by decide +kernel
theorem dX12_docket_33 : decode cX12_docket 33 = .ok (.iload_n 1, 1) := by decide +kernel
theorem dX12_docket_34 : decode cX12_docket 34 = .ok (.ifCond .ne 7, 3) := by decide +kernel
theorem dX12_docket_37 : decode cX12_docket 37 = .ok (.iload_n 2, 1) := by decide +kernel
theorem dX12_docket_38 : decode cX12_docket 38 = .ok (.goto 12, 3) := by decide +kernel
theorem dX12_docket_41 : decode cX12_docket 41 = .ok (.aload_n 0, 1) := by decide +kernel
theorem dX12_docket_42 : decode cX12_docket 42 = .ok (.getfield 53, 3) := by decide +kernel
theorem dX12_docket_45 : decode cX12_docket 45 = .ok (.iload_n 1, 1) := by decide +kernel
theorem dX12_docket_46 : decode cX12_docket 46 = .ok (.bipush 10, 2) := by decide +kernel
theorem dX12_docket_48 : decode cX12_docket 48 = .ok (.isub, 1) := by decide +kernel
theorem dX12_docket_49 : decode cX12_docket 49 = .ok (.iaload, 1) := by decide +kernel
theorem dX12_docket_50 : decode cX12_docket 50 = .ok (.ireturn, 1) := by decide +kernel
theorem dX12_oddsNow_0 : decode cX12_oddsNow 0 = .ok (.iconst 0, 1) := by decide +kernel
theorem dX12_oddsNow_1 : decode cX12_oddsNow 1 = .ok (.istore 6, 2) := by decide +kernel
theorem dX12_oddsNow_3 : decode cX12_oddsNow 3 = .ok (.iconst 1, 1) := by decide +kernel
theorem dX12_oddsNow_4 : decode cX12_oddsNow 4 = .ok (.istore 7, 2) := by decide +kernel
theorem dX12_oddsNow_6 : decode cX12_oddsNow 6 = .ok (.iconst 1, 1) := by decide +kernel
theorem dX12_oddsNow_7 : decode cX12_oddsNow 7 = .ok (.istore 8, 2) := by decide +kernel
theorem dX12_oddsNow_9 : decode cX12_oddsNow 9 = .ok (.iconst 0, 1) := by decide +kernel
theorem dX12_oddsNow_10 : decode cX12_oddsNow 10 = .ok (.istore 9, 2) := by decide +kernel
theorem dX12_oddsNow_12 : decode cX12_oddsNow 12 = .ok (.iload 9, 2) := by decide +kernel
theorem dX12_oddsNow_14 : decode cX12_oddsNow 14 = .ok (.iload_n 3, 1) := by decide +kernel
theorem dX12_oddsNow_15 : decode cX12_oddsNow 15 = .ok (.if_icmp .ge 74, 3) := by decide +kernel
theorem dX12_oddsNow_18 : decode cX12_oddsNow 18 = .ok (.aload_n 0, 1) := by decide +kernel
theorem dX12_oddsNow_19 : decode cX12_oddsNow 19 = .ok (.iload_n 1, 1) := by decide +kernel
theorem dX12_oddsNow_20 : decode cX12_oddsNow 20 = .ok (.iload_n 2, 1) := by decide +kernel
theorem dX12_oddsNow_21 : decode cX12_oddsNow 21 = .ok (.aload_n 0, 1) := by decide +kernel
theorem dX12_oddsNow_22 : decode cX12_oddsNow 22 = .ok (.getfield 119, 3) := by decide +kernel
theorem dX12_oddsNow_25 : decode cX12_oddsNow 25 = .ok (.iload 9, 2) := by decide +kernel
theorem dX12_oddsNow_27 : decode cX12_oddsNow 27 = .ok (.iadd, 1) := by decide +kernel
theorem dX12_oddsNow_28 : decode cX12_oddsNow 28 = .ok (.bipush 13, 2) := by decide +kernel
theorem dX12_oddsNow_30 : decode cX12_oddsNow 30 = .ok (.irem, 1) := by decide +kernel
theorem dX12_oddsNow_31 : decode cX12_oddsNow 31 = .ok (.invokevirtual 186, 3) := by decide +kernel
theorem dX12_oddsNow_34 : decode cX12_oddsNow 34 = .ok (.ifCond .le 7, 3) := by decide +kernel
theorem dX12_oddsNow_37 : decode cX12_oddsNow 37 = .ok (.iconst 1, 1) := by decide +kernel
theorem dX12_oddsNow_38 : decode cX12_oddsNow 38 = .ok (.goto 4, 3) := by decide +kernel
theorem dX12_oddsNow_41 : decode cX12_oddsNow 41 = .ok (.iconst 0, 1) := by decide +kernel
theorem dX12_oddsNow_42 : decode cX12_oddsNow 42 = .ok (.istore 10, 2) := by decide +kernel
theorem dX12_oddsNow_44 : decode cX12_oddsNow 44 = .ok (.bipush 10, 2) := by decide +kernel
theorem dX12_oddsNow_46 : decode cX12_oddsNow 46 = .ok (.iload 6, 2) := by decide +kernel
theorem dX12_oddsNow_48 : decode cX12_oddsNow 48 = .ok (.imul, 1) := by decide +kernel
theorem dX12_oddsNow_49 : decode cX12_oddsNow 49 = .ok (.iload 10, 2) := by decide +kernel
theorem dX12_oddsNow_51 : decode cX12_oddsNow 51 = .ok (.ifCond .eq 14, 3) := by decide +kernel
theorem dX12_oddsNow_54 : decode cX12_oddsNow 54 = .ok (.iload 8, 2) := by decide +kernel
theorem dX12_oddsNow_56 : decode cX12_oddsNow 56 = .ok (.bipush 10, 2) := by decide +kernel
theorem dX12_oddsNow_58 : decode cX12_oddsNow 58 = .ok (.iload 4, 2) := by decide +kernel
theorem dX12_oddsNow_60 : decode cX12_oddsNow 60 = .ok (.isub, 1) := by decide +kernel
theorem dX12_oddsNow_61 : decode cX12_oddsNow 61 = .ok (.imul, 1) := by decide +kernel
theorem dX12_oddsNow_62 : decode cX12_oddsNow 62 = .ok (.goto 4, 3) := by decide +kernel
theorem dX12_oddsNow_65 : decode cX12_oddsNow 65 = .ok (.iconst 0, 1) := by decide +kernel
theorem dX12_oddsNow_66 : decode cX12_oddsNow 66 = .ok (.iadd, 1) := by decide +kernel
theorem dX12_oddsNow_67 : decode cX12_oddsNow 67 = .ok (.istore 6, 2) := by decide +kernel
theorem dX12_oddsNow_69 : decode cX12_oddsNow 69 = .ok (.iload 8, 2) := by decide +kernel
theorem dX12_oddsNow_71 : decode cX12_oddsNow 71 = .ok (.iload 4, 2) := by decide +kernel
theorem dX12_oddsNow_73 : decode cX12_oddsNow 73 = .ok (.imul, 1) := by decide +kernel
theorem dX12_oddsNow_74 : decode cX12_oddsNow 74 = .ok (.istore 8, 2) := by decide +kernel
theorem dX12_oddsNow_76 : decode cX12_oddsNow 76 = .ok (.iload 7, 2) := by decide +kernel
theorem dX12_oddsNow_78 : decode cX12_oddsNow 78 = .ok (.bipush 10, 2) := by decide +kernel
theorem dX12_oddsNow_80 : decode cX12_oddsNow 80 = .ok (.imul, 1) := by decide +kernel
theorem dX12_oddsNow_81 : decode cX12_oddsNow 81 = .ok (.istore 7, 2) := by decide +kernel
theorem dX12_oddsNow_83 : decode cX12_oddsNow 83 = .ok (.iinc 9 1, 3) := by decide +kernel
theorem dX12_oddsNow_86 : decode cX12_oddsNow 86 = .ok (.goto (-74), 3) := by decide +kernel
theorem dX12_oddsNow_89 : decode cX12_oddsNow 89 = .ok (.iload 6, 2) := by decide +kernel
theorem dX12_oddsNow_91 : decode cX12_oddsNow 91 = .ok (.iload 7, 2) := by decide +kernel
theorem dX12_oddsNow_93 : decode cX12_oddsNow 93 = .ok (.invokestatic 233, 3) := by decide +kernel
theorem dX12_oddsNow_96 : decode cX12_oddsNow 96 = .ok (.istore 9, 2) := by decide +kernel
theorem dX12_oddsNow_98 : decode cX12_oddsNow 98 = .ok (.iload 5, 2) := by decide +kernel
theorem dX12_oddsNow_100 : decode cX12_oddsNow 100 = .ok (.ifCond .ne 11, 3) := by decide +kernel
theorem dX12_oddsNow_103 : decode cX12_oddsNow 103 = .ok (.iload 6, 2) := by decide +kernel
theorem dX12_oddsNow_105 : decode cX12_oddsNow 105 = .ok (.iload 9, 2) := by decide +kernel
theorem dX12_oddsNow_107 : decode cX12_oddsNow 107 = .ok (.idiv, 1) := by decide +kernel
theorem dX12_oddsNow_108 : decode cX12_oddsNow 108 = .ok (.goto 8, 3) := by decide +kernel
theorem dX12_oddsNow_111 : decode cX12_oddsNow 111 = .ok (.iload 7, 2) := by decide +kernel
theorem dX12_oddsNow_113 : decode cX12_oddsNow 113 = .ok (.iload 9, 2) := by decide +kernel
theorem dX12_oddsNow_115 : decode cX12_oddsNow 115 = .ok (.idiv, 1) := by decide +kernel
theorem dX12_oddsNow_116 : decode cX12_oddsNow 116 = .ok (.ireturn, 1) := by decide +kernel
theorem dX12_odds_0 : decode cX12_odds 0 = .ok (.aload_n 0, 1) := by decide +kernel
theorem dX12_odds_1 : decode cX12_odds 1 = .ok (.iload_n 1, 1) := by decide +kernel
theorem dX12_odds_2 : decode cX12_odds 2 = .ok (.iload_n 2, 1) := by decide +kernel
theorem dX12_odds_3 : decode cX12_odds 3 = .ok (.invokevirtual 183, 3) := by decide +kernel
theorem dX12_odds_6 : decode cX12_odds 6 = .ok (.ifCond .ne 6, 3) := by decide +kernel
theorem dX12_odds_9 : decode cX12_odds 9 = .ok (.bipush (-101), 2) := by decide +kernel
theorem dX12_odds_11 : decode cX12_odds 11 = .ok (.ireturn, 1) := by decide +kernel
theorem dX12_odds_12 : decode cX12_odds 12 = .ok (.iload_n 3, 1) := by decide +kernel
theorem dX12_odds_13 : decode cX12_odds 13 = .ok (.iconst 1, 1) := by decide +kernel
theorem dX12_odds_14 : decode cX12_odds 14 = .ok (.bipush 6, 2) := by decide +kernel
theorem dX12_odds_16 : decode cX12_odds 16 = .ok (.invokestatic 83, 3) := by decide +kernel
theorem dX12_odds_19 : decode cX12_odds 19 = .ok (.ifCond .eq 28, 3) := by decide +kernel
theorem dX12_odds_22 : decode cX12_odds 22 = .ok (.iload 4, 2) := by decide +kernel
theorem dX12_odds_24 : decode cX12_odds 24 = .ok (.iconst 0, 1) := by decide +kernel
theorem dX12_odds_25 : decode cX12_odds 25 = .ok (.bipush 10, 2) := by decide +kernel
theorem dX12_odds_27 : decode cX12_odds 27 = .ok (.invokestatic 83, 3) := by decide +kernel
theorem dX12_odds_30 : decode cX12_odds 30 = .ok (.ifCond .eq 17, 3) := by decide +kernel
theorem dX12_odds_33 : decode cX12_odds 33 = .ok (.iload 5, 2) := by decide +kernel
theorem dX12_odds_35 : decode cX12_odds 35 = .ok (.iconst 0, 1) := by decide +kernel
theorem dX12_odds_36 : decode cX12_odds 36 = .ok (.iconst 1, 1) := by decide +kernel
theorem dX12_odds_37 : decode cX12_odds 37 = .ok (.invokestatic 83, 3) := by decide +kernel
theorem dX12_odds_40 : decode cX12_odds 40 = .ok (.ifCond .eq 7, 3) := by decide +kernel
theorem dX12_odds_43 : decode cX12_odds 43 = .ok (.iconst 1, 1) := by decide +kernel
theorem dX12_odds_44 : decode cX12_odds 44 = .ok (.goto 4, 3) := by decide +kernel
theorem dX12_odds_47 : decode cX12_odds 47 = .ok (.iconst 0, 1) := by decide +kernel
theorem dX12_odds_48 : decode cX12_odds 48 = .ok (.istore 6, 2) := by decide +kernel
theorem dX12_odds_50 : decode cX12_odds 50 = .ok (.iload 6, 2) := by decide +kernel
theorem dX12_odds_52 : decode cX12_odds 52 = .ok (.ifCond .eq 17, 3) := by decide +kernel
theorem dX12_odds_55 : decode cX12_odds 55 = .ok (.aload_n 0, 1) := by decide +kernel
theorem dX12_odds_56 : decode cX12_odds 56 = .ok (.iload_n 1, 1) := by decide +kernel
theorem dX12_odds_57 : decode cX12_odds 57 = .ok (.iload_n 2, 1) := by decide +kernel
theorem dX12_odds_58 : decode cX12_odds 58 = .ok (.iload_n 3, 1) := by decide +kernel
theorem dX12_odds_59 : decode cX12_odds 59 = .ok (.iload 4, 2) := by decide +kernel
theorem dX12_odds_61 : decode cX12_odds 61 = .ok (.iload 5, 2) := by decide +kernel
theorem dX12_odds_63 : decode cX12_odds 63 = .ok (.invokevirtual 236, 3) := by decide +kernel
theorem dX12_odds_66 : decode cX12_odds 66 = .ok (.goto 5, 3) := by decide +kernel
theorem dX12_odds_69 : decode cX12_odds 69 = .ok (.bipush (-102), 2) := by decide +kernel
theorem dX12_odds_71 : decode cX12_odds 71 = .ok (.ireturn, 1) := by decide +kernel
theorem dX12_see_0 : decode cX12_see 0 = .ok (.aload_n 0, 1) := by decide +kernel
theorem dX12_see_1 : decode cX12_see 1 = .ok (.iload_n 1, 1) := by decide +kernel
theorem dX12_see_2 : decode cX12_see 2 = .ok (.invokevirtual 134, 3) := by decide +kernel
theorem dX12_see_5 : decode cX12_see 5 = .ok (.ifCond .ne 6, 3) := by decide +kernel
theorem dX12_see_8 : decode cX12_see 8 = .ok (.bipush (-101), 2) := by decide +kernel
theorem dX12_see_10 : decode cX12_see 10 = .ok (.ireturn, 1) := by decide +kernel
theorem dX12_see_11 : decode cX12_see 11 = .ok (.iload_n 2, 1) := by decide +kernel
theorem dX12_see_12 : decode cX12_see 12 = .ok (.iconst 0, 1) := by decide +kernel
theorem dX12_see_13 : decode cX12_see 13 = .ok (.bipush 12, 2) := by decide +kernel
theorem dX12_see_15 : decode cX12_see 15 = .ok (.invokestatic 83, 3) := by decide +kernel
theorem dX12_see_18 : decode cX12_see 18 = .ok (.ifCond .eq 13, 3) := by decide +kernel
theorem dX12_see_21 : decode cX12_see 21 = .ok (.iload_n 3, 1) := by decide +kernel
theorem dX12_see_22 : decode cX12_see 22 = .ok (.iconst 0, 1) := by decide +kernel
theorem dX12_see_23 : decode cX12_see 23 = .ok (.bipush 9, 2) := by decide +kernel
theorem dX12_see_25 : decode cX12_see 25 = .ok (.invokestatic 83, 3) := by decide +kernel
theorem dX12_see_28 : decode cX12_see 28 = .ok (.ifCond .ne 6, 3) := by decide +kernel
theorem dX12_see_31 : decode cX12_see 31 = .ok (.bipush (-102), 2) := by decide +kernel
theorem dX12_see_33 : decode cX12_see 33 = .ok (.ireturn, 1) := by decide +kernel
theorem dX12_see_34 : decode cX12_see 34 = .ok (.aload_n 0, 1) := by decide +kernel
theorem dX12_see_35 : decode cX12_see 35 = .ok (.getfield 131, 3) := by decide +kernel
theorem dX12_see_38 : decode cX12_see 38 = .ok (.bipush 8, 2) := by decide +kernel
theorem dX12_see_40 : decode cX12_see 40 = .ok (.if_icmp .ne 6, 3) := by decide +kernel
theorem dX12_see_43 : decode cX12_see 43 = .ok (.bipush (-104), 2) := by decide +kernel
theorem dX12_see_45 : decode cX12_see 45 = .ok (.ireturn, 1) := by decide +kernel
theorem dX12_see_46 : decode cX12_see 46 = .ok (.aload_n 0, 1) := by decide +kernel
theorem dX12_see_47 : decode cX12_see 47 = .ok (.getfield 28, 3) := by decide +kernel
theorem dX12_see_50 : decode cX12_see 50 = .ok (.aload_n 0, 1) := by decide +kernel
theorem dX12_see_51 : decode cX12_see 51 = .ok (.getfield 131, 3) := by decide +kernel
theorem dX12_see_54 : decode cX12_see 54 = .ok (.iload_n 1, 1) := by decide +kernel
theorem dX12_see_55 : decode cX12_see 55 = .ok (.iastore, 1) := by decide +kernel
theorem dX12_see_56 : decode cX12_see 56 = .ok (.aload_n 0, 1) := by decide +kernel
theorem dX12_see_57 : decode cX12_see 57 = .ok (.getfield 31, 3) := by decide +kernel
theorem dX12_see_60 : decode cX12_see 60 = .ok (.aload_n 0, 1) := by decide +kernel
theorem dX12_see_61 : decode cX12_see 61 = .ok (.getfield 131, 3) := by decide +kernel
theorem dX12_see_64 : decode cX12_see 64 = .ok (.iload_n 2, 1) := by decide +kernel
theorem dX12_see_65 : decode cX12_see 65 = .ok (.iastore, 1) := by decide +kernel
theorem dX12_see_66 : decode cX12_see 66 = .ok (.aload_n 0, 1) := by decide +kernel
theorem dX12_see_67 : decode cX12_see 67 = .ok (.getfield 34, 3) := by decide +kernel
theorem dX12_see_70 : decode cX12_see 70 = .ok (.aload_n 0, 1) := by decide +kernel
theorem dX12_see_71 : decode cX12_see 71 = .ok (.getfield 131, 3) := by decide +kernel
theorem dX12_see_74 : decode cX12_see 74 = .ok (.iload_n 3, 1) := by decide +kernel
theorem dX12_see_75 : decode cX12_see 75 = .ok (.iastore, 1) := by decide +kernel
theorem dX12_see_76 : decode cX12_see 76 = .ok (.aload_n 0, 1) := by decide +kernel
theorem dX12_see_77 : decode cX12_see 77 = .ok (.getfield 37, 3) := by decide +kernel
theorem dX12_see_80 : decode cX12_see 80 = .ok (.aload_n 0, 1) := by decide +kernel
theorem dX12_see_81 : decode cX12_see 81 = .ok (.getfield 131, 3) := by decide +kernel
theorem dX12_see_84 : decode cX12_see 84 = .ok (.iload 4, 2) := by decide +kernel
theorem dX12_see_86 : decode cX12_see 86 = .ok (.ifCond .eq 7, 3) := by decide +kernel
theorem dX12_see_89 : decode cX12_see 89 = .ok (.iconst 1, 1) := by decide +kernel
theorem dX12_see_90 : decode cX12_see 90 = .ok (.goto 4, 3) := by decide +kernel
theorem dX12_see_93 : decode cX12_see 93 = .ok (.iconst 0, 1) := by decide +kernel
theorem dX12_see_94 : decode cX12_see 94 = .ok (.iastore, 1) := by decide +kernel
theorem dX12_see_95 : decode cX12_see 95 = .ok (.aload_n 0, 1) := by decide +kernel
theorem dX12_see_96 : decode cX12_see 96 = .ok (.dup, 1) := by decide +kernel
theorem dX12_see_97 : decode cX12_see 97 = .ok (.getfield 131, 3) := by decide +kernel
theorem dX12_see_100 : decode cX12_see 100 = .ok (.iconst 1, 1) := by decide +kernel
theorem dX12_see_101 : decode cX12_see 101 = .ok (.iadd, 1) := by decide +kernel
theorem dX12_see_102 : decode cX12_see 102 = .ok (.putfield 131, 3) := by decide +kernel
theorem dX12_see_105 : decode cX12_see 105 = .ok (.aload_n 0, 1) := by decide +kernel
theorem dX12_see_106 : decode cX12_see 106 = .ok (.getfield 131, 3) := by decide +kernel
theorem dX12_see_109 : decode cX12_see 109 = .ok (.ireturn, 1) := by decide +kernel
theorem dX12_forget_0 : decode cX12_forget 0 = .ok (.aload_n 0, 1) := by decide +kernel
theorem dX12_forget_1 : decode cX12_forget 1 = .ok (.getfield 131, 3) := by decide +kernel
theorem dX12_forget_4 : decode cX12_forget 4 = .ok (.istore_n 1, 1) := by decide +kernel
theorem dX12_forget_5 : decode cX12_forget 5 = .ok (.aload_n 0, 1) := by decide +kernel
theorem dX12_forget_6 : decode cX12_forget 6 = .ok (.iconst 0, 1) := by decide +kernel
theorem dX12_forget_7 : decode cX12_forget 7 = .ok (.putfield 131, 3) := by decide +kernel
theorem dX12_forget_10 : decode cX12_forget 10 = .ok (.iload_n 1, 1) := by decide +kernel
theorem dX12_forget_11 : decode cX12_forget 11 = .ok (.ireturn, 1) := by decide +kernel
theorem dX12_coversWith_0 : decode cX12_coversWith 0 = .ok (.aload_n 0, 1) := by decide +kernel
theorem dX12_coversWith_1 : decode cX12_coversWith 1 = .ok (.getfield 16, 3) := by decide +kernel
theorem dX12_coversWith_4 : decode cX12_coversWith 4 = .ok (.iload_n 1, 1) := by decide +kernel
theorem dX12_coversWith_5 : decode cX12_coversWith 5 = .ok (.iaload, 1) := by decide +kernel
theorem dX12_coversWith_6 : decode cX12_coversWith 6 = .ok (.istore 5, 2) := by decide +kernel
theorem dX12_coversWith_8 : decode cX12_coversWith 8 = .ok (.aload_n 0, 1) := by decide +kernel
theorem dX12_coversWith_9 : decode cX12_coversWith 9 = .ok (.getfield 16, 3) := by decide +kernel
theorem dX12_coversWith_12 : decode cX12_coversWith 12 = .ok (.iload_n 1, 1) := by decide +kernel
theorem dX12_coversWith_13 : decode cX12_coversWith 13 = .ok (.iload_n 2, 1) := by decide +kernel
theorem dX12_coversWith_14 : decode cX12_coversWith 14 = .ok (.iastore, 1) := by decide +kernel
theorem dX12_coversWith_15 : decode cX12_coversWith 15 = .ok (.aload_n 0, 1) := by decide +kernel
theorem dX12_coversWith_16 : decode cX12_coversWith 16 = .ok (.iload_n 1, 1) := by decide +kernel
theorem dX12_coversWith_17 : decode cX12_coversWith 17 = .ok (.iload_n 3, 1) := by decide +kernel
theorem dX12_coversWith_18 : decode cX12_coversWith 18 = .ok (.invokevirtual 162, 3) := by decide +kernel
theorem dX12_coversWith_21 : decode cX12_coversWith 21 = .ok (.iload 4, 2) := by decide +kernel
theorem dX12_coversWith_23 : decode cX12_coversWith 23 = .ok (.invokestatic 156, 3) := by decide +kernel
theorem dX12_coversWith_26 : decode cX12_coversWith 26 = .ok (.istore 6, 2) := by decide +kernel
theorem dX12_coversWith_28 : decode cX12_coversWith 28 = .ok (.aload_n 0, 1) := by decide +kernel
theorem dX12_coversWith_29 : decode cX12_coversWith 29 = .ok (.getfield 16, 3) := by decide +kernel
theorem dX12_coversWith_32 : decode cX12_coversWith 32 = .ok (.iload_n 1, 1) := by decide +kernel
theorem dX12_coversWith_33 : decode cX12_coversWith 33 = .ok (.iload 5, 2) := by decide +kernel
theorem dX12_coversWith_35 : decode cX12_coversWith 35 = .ok (.iastore, 1) := by decide +kernel
theorem dX12_coversWith_36 : decode cX12_coversWith 36 = .ok (.iload 6, 2) := by decide +kernel
theorem dX12_coversWith_38 : decode cX12_coversWith 38 = .ok (.ireturn, 1) := by decide +kernel
theorem dX12_heightsOf_0 : decode cX12_heightsOf 0 = .ok (.iconst 0, 1) := by decide +kernel
theorem dX12_heightsOf_1 : decode cX12_heightsOf 1 = .ok (.istore_n 2, 1) := by decide +kernel
theorem dX12_heightsOf_2 : decode cX12_heightsOf 2 = .ok (.iconst 1, 1) := by decide +kernel
theorem dX12_heightsOf_3 : decode cX12_heightsOf 3 = .ok (.istore_n 3, 1) := by decide +kernel
theorem dX12_heightsOf_4 : decode cX12_heightsOf 4 = .ok (.iload_n 3, 1) := by decide +kernel
theorem dX12_heightsOf_5 : decode cX12_heightsOf 5 = .ok (.bipush 9, 2) := by decide +kernel
theorem dX12_heightsOf_7 : decode cX12_heightsOf 7 = .ok (.if_icmp .gt 109, 3) := by decide +kernel
theorem dX12_heightsOf_10 : decode cX12_heightsOf 10 = .ok (.iconst 1, 1) := by decide +kernel
theorem dX12_heightsOf_11 : decode cX12_heightsOf 11 = .ok (.istore 4, 2) := by decide +kernel
theorem dX12_heightsOf_13 : decode cX12_heightsOf 13 = .ok (.iconst 0, 1) := by decide +kernel
theorem dX12_heightsOf_14 : decode cX12_heightsOf 14 = .ok (.istore 5, 2) := by decide +kernel
theorem dX12_heightsOf_16 : decode cX12_heightsOf 16 = .ok (.iload 5, 2) := by decide +kernel
theorem dX12_heightsOf_18 : decode cX12_heightsOf 18 = .ok (.aload_n 0, 1) := by decide +kernel
theorem dX12_heightsOf_19 : decode cX12_heightsOf 19 = .ok (.getfield 131, 3) := by decide +kernel
theorem dX12_heightsOf_22 : decode cX12_heightsOf 22 = .ok (.if_icmp .ge 71, 3) := by decide +kernel
theorem dX12_heightsOf_25 : decode cX12_heightsOf 25 = .ok (.iload 4, 2) := by decide +kernel
theorem dX12_heightsOf_27 : decode cX12_heightsOf 27 = .ok (.ifCond .eq 57, 3) := by decide +kernel
theorem dX12_heightsOf_30 : decode cX12_heightsOf 30 = .ok (.aload_n 0, 1) := by decide +kernel
theorem dX12_heightsOf_31 : decode cX12_heightsOf 31 = .ok (.getfield 28, 3) := by decide +kernel
theorem dX12_heightsOf_34 : decode cX12_heightsOf 34 = .ok (.iload 5, 2) := by decide +kernel
theorem dX12_heightsOf_36 : decode cX12_heightsOf 36 = .ok (.iaload, 1) := by decide +kernel
theorem dX12_heightsOf_37 : decode cX12_heightsOf 37 = .ok (.iload_n 1, 1) := by decide +kernel
theorem dX12_heightsOf_38 : decode cX12_heightsOf 38 = .ok (.if_icmp .ne 42, 3) := by decide +kernel
theorem dX12_heightsOf_41 : decode cX12_heightsOf 41 = .ok (.aload_n 0, 1) := by decide +kernel
theorem dX12_heightsOf_42 : decode cX12_heightsOf 42 = .ok (.iload_n 1, 1) := by decide +kernel
theorem dX12_heightsOf_43 : decode cX12_heightsOf 43 = .ok (.iload_n 3, 1) := by decide +kernel
theorem dX12_heightsOf_44 : decode cX12_heightsOf 44 = .ok (.aload_n 0, 1) := by decide +kernel
theorem dX12_heightsOf_45 : decode cX12_heightsOf 45 = .ok (.getfield 31, 3) := by decide +kernel
theorem dX12_heightsOf_48 : decode cX12_heightsOf 48 = .ok (.iload 5, 2) := by decide +kernel
theorem dX12_heightsOf_50 : decode cX12_heightsOf 50 = .ok (.iaload, 1) := by decide +kernel
theorem dX12_heightsOf_51 : decode cX12_heightsOf 51 = .ok (.aload_n 0, 1) := by decide +kernel
theorem dX12_heightsOf_52 : decode cX12_heightsOf 52 = .ok (.getfield 34, 3) := by decide +kernel
theorem dX12_heightsOf_55 : decode cX12_heightsOf 55 = .ok (.iload 5, 2) := by decide +kernel
theorem dX12_heightsOf_57 : decode cX12_heightsOf 57 = .ok (.iaload, 1) := by decide +kernel
theorem dX12_heightsOf_58 : decode cX12_heightsOf 58 = .ok (.invokevirtual 239, 3) := by decide +kernel
theorem dX12_heightsOf_61 : decode cX12_heightsOf 61 = .ok (.aload_n 0, 1) := by decide +kernel
theorem dX12_heightsOf_62 : decode cX12_heightsOf 62 = .ok (.getfield 37, 3) := by decide +kernel
theorem dX12_heightsOf_65 : decode cX12_heightsOf 65 = .ok (.iload 5, 2) := by decide +kernel
theorem dX12_heightsOf_67 : decode cX12_heightsOf 67 = .ok (.iaload, 1) := by decide +kernel
theorem dX12_heightsOf_68 : decode cX12_heightsOf 68 = .ok (.iconst 1, 1) := by decide +kernel
theorem dX12_heightsOf_69 : decode cX12_heightsOf 69 = .ok (.if_icmp .ne 7, 3) := by decide +kernel
theorem dX12_heightsOf_72 : decode cX12_heightsOf 72 = .ok (.iconst 1, 1) := by decide +kernel
theorem dX12_heightsOf_73 : decode cX12_heightsOf 73 = .ok (.goto 4, 3) := by decide +kernel
theorem dX12_heightsOf_76 : decode cX12_heightsOf 76 = .ok (.iconst 0, 1) := by decide +kernel
theorem dX12_heightsOf_77 : decode cX12_heightsOf 77 = .ok (.if_icmp .ne 7, 3) := by decide +kernel
theorem dX12_heightsOf_80 : decode cX12_heightsOf 80 = .ok (.iconst 1, 1) := by decide +kernel
theorem dX12_heightsOf_81 : decode cX12_heightsOf 81 = .ok (.goto 4, 3) := by decide +kernel
theorem dX12_heightsOf_84 : decode cX12_heightsOf 84 = .ok (.iconst 0, 1) := by decide +kernel
theorem dX12_heightsOf_85 : decode cX12_heightsOf 85 = .ok (.istore 4, 2) := by decide +kernel
theorem dX12_heightsOf_87 : decode cX12_heightsOf 87 = .ok (.iinc 5 1, 3) := by decide +kernel
theorem dX12_heightsOf_90 : decode cX12_heightsOf 90 = .ok (.goto (-74), 3) := by decide +kernel
theorem dX12_heightsOf_93 : decode cX12_heightsOf 93 = .ok (.iload_n 2, 1) := by decide +kernel
theorem dX12_heightsOf_94 : decode cX12_heightsOf 94 = .ok (.iload 4, 2) := by decide +kernel
theorem dX12_heightsOf_96 : decode cX12_heightsOf 96 = .ok (.ifCond .eq 11, 3) := by decide +kernel
theorem dX12_heightsOf_99 : decode cX12_heightsOf 99 = .ok (.iconst 1, 1) := by decide +kernel
theorem dX12_heightsOf_100 : decode cX12_heightsOf 100 = .ok (.iload_n 3, 1) := by decide +kernel
theorem dX12_heightsOf_101 : decode cX12_heightsOf 101 = .ok (.iconst 1, 1) := by decide +kernel
theorem dX12_heightsOf_102 : decode cX12_heightsOf 102 = .ok (.isub, 1) := by decide +kernel
theorem dX12_heightsOf_103 : decode cX12_heightsOf 103 = .ok (.ishl, 1) := by decide +kernel
theorem dX12_heightsOf_104 : decode cX12_heightsOf 104 = .ok (.goto 4, 3) := by decide +kernel
theorem dX12_heightsOf_107 : decode cX12_heightsOf 107 = .ok (.iconst 0, 1) := by decide +kernel
theorem dX12_heightsOf_108 : decode cX12_heightsOf 108 = .ok (.ior, 1) := by decide +kernel
theorem dX12_heightsOf_109 : decode cX12_heightsOf 109 = .ok (.istore_n 2, 1) := by decide +kernel
theorem dX12_heightsOf_110 : decode cX12_heightsOf 110 = .ok (.iinc 3 1, 3) := by decide +kernel
theorem dX12_heightsOf_113 : decode cX12_heightsOf 113 = .ok (.goto (-109), 3) := by decide +kernel
theorem dX12_heightsOf_116 : decode cX12_heightsOf 116 = .ok (.iload_n 2, 1) := by decide +kernel
theorem dX12_heightsOf_117 : decode cX12_heightsOf 117 = .ok (.ireturn, 1) := by decide +kernel
theorem dX12_worstBy_0 : decode cX12_worstBy 0 = .ok (.iconst 0, 1) := by decide +kernel
theorem dX12_worstBy_1 : decode cX12_worstBy 1 = .ok (.istore 5, 2) := by decide +kernel
theorem dX12_worstBy_3 : decode cX12_worstBy 3 = .ok (.iconst 1, 1) := by decide +kernel
theorem dX12_worstBy_4 : decode cX12_worstBy 4 = .ok (.istore 6, 2) := by decide +kernel
theorem dX12_worstBy_6 : decode cX12_worstBy 6 = .ok (.iload 6, 2) := by decide +kernel
theorem dX12_worstBy_8 : decode cX12_worstBy 8 = .ok (.bipush 9, 2) := by decide +kernel
theorem dX12_worstBy_10 : decode cX12_worstBy 10 = .ok (.if_icmp .gt 43, 3) := by decide +kernel
theorem dX12_worstBy_13 : decode cX12_worstBy 13 = .ok (.iload 5, 2) := by decide +kernel
theorem dX12_worstBy_15 : decode cX12_worstBy 15 = .ok (.iload_n 2, 1) := by decide +kernel
theorem dX12_worstBy_16 : decode cX12_worstBy 16 = .ok (.iload 6, 2) := by decide +kernel
theorem dX12_worstBy_18 : decode cX12_worstBy 18 = .ok (.iconst 1, 1) := by decide +kernel
theorem dX12_worstBy_19 : decode cX12_worstBy 19 = .ok (.isub, 1) := by decide +kernel
theorem dX12_worstBy_20 : decode cX12_worstBy 20 = .ok (.invokestatic 156, 3) := by decide +kernel
theorem dX12_worstBy_23 : decode cX12_worstBy 23 = .ok (.ifCond .eq 20, 3) := by decide +kernel
theorem dX12_worstBy_26 : decode cX12_worstBy 26 = .ok (.aload_n 0, 1) := by decide +kernel
theorem dX12_worstBy_27 : decode cX12_worstBy 27 = .ok (.iload_n 1, 1) := by decide +kernel
theorem dX12_worstBy_28 : decode cX12_worstBy 28 = .ok (.iload 6, 2) := by decide +kernel
theorem dX12_worstBy_30 : decode cX12_worstBy 30 = .ok (.iload_n 3, 1) := by decide +kernel
theorem dX12_worstBy_31 : decode cX12_worstBy 31 = .ok (.iload 4, 2) := by decide +kernel
theorem dX12_worstBy_33 : decode cX12_worstBy 33 = .ok (.invokevirtual 239, 3) := by decide +kernel
theorem dX12_worstBy_36 : decode cX12_worstBy 36 = .ok (.ifCond .eq 7, 3) := by decide +kernel
theorem dX12_worstBy_39 : decode cX12_worstBy 39 = .ok (.iconst 1, 1) := by decide +kernel
theorem dX12_worstBy_40 : decode cX12_worstBy 40 = .ok (.goto 4, 3) := by decide +kernel
theorem dX12_worstBy_43 : decode cX12_worstBy 43 = .ok (.iconst 0, 1) := by decide +kernel
theorem dX12_worstBy_44 : decode cX12_worstBy 44 = .ok (.iadd, 1) := by decide +kernel
theorem dX12_worstBy_45 : decode cX12_worstBy 45 = .ok (.istore 5, 2) := by decide +kernel
theorem dX12_worstBy_47 : decode cX12_worstBy 47 = .ok (.iinc 6 1, 3) := by decide +kernel
theorem dX12_worstBy_50 : decode cX12_worstBy 50 = .ok (.goto (-44), 3) := by decide +kernel
theorem dX12_worstBy_53 : decode cX12_worstBy 53 = .ok (.iload_n 2, 1) := by decide +kernel
theorem dX12_worstBy_54 : decode cX12_worstBy 54 = .ok (.invokestatic 212, 3) := by decide +kernel
theorem dX12_worstBy_57 : decode cX12_worstBy 57 = .ok (.iload 5, 2) := by decide +kernel
theorem dX12_worstBy_59 : decode cX12_worstBy 59 = .ok (.isub, 1) := by decide +kernel
theorem dX12_worstBy_60 : decode cX12_worstBy 60 = .ok (.istore 6, 2) := by decide +kernel
theorem dX12_worstBy_62 : decode cX12_worstBy 62 = .ok (.iload 5, 2) := by decide +kernel
theorem dX12_worstBy_64 : decode cX12_worstBy 64 = .ok (.iload 6, 2) := by decide +kernel
theorem dX12_worstBy_66 : decode cX12_worstBy 66 = .ok (.if_icmp .le 8, 3) := by decide +kernel
theorem dX12_worstBy_69 : decode cX12_worstBy 69 = .ok (.iload 5, 2) := by decide +kernel
theorem dX12_worstBy_71 : decode cX12_worstBy 71 = .ok (.goto 5, 3) := by decide +kernel
theorem dX12_worstBy_74 : decode cX12_worstBy 74 = .ok (.iload 6, 2) := by decide +kernel
theorem dX12_worstBy_76 : decode cX12_worstBy 76 = .ok (.ireturn, 1) := by decide +kernel
theorem dX12_lookFor_0 : decode cX12_lookFor 0 = .ok (.aload_n 0, 1) := by decide +kernel
theorem dX12_lookFor_1 : decode cX12_lookFor 1 = .ok (.iload_n 1, 1) := by decide +kernel
theorem dX12_lookFor_2 : decode cX12_lookFor 2 = .ok (.invokevirtual 168, 3) := by decide +kernel
theorem dX12_lookFor_5 : decode cX12_lookFor 5 = .ok (.istore_n 2, 1) := by decide +kernel
theorem dX12_lookFor_6 : decode cX12_lookFor 6 = .ok (.iconst (-1), 1) := by decide +kernel
theorem dX12_lookFor_7 : decode cX12_lookFor 7 = .ok (.istore_n 3, 1) := by decide +kernel
theorem dX12_lookFor_8 : decode cX12_lookFor 8 = .ok (.ldc 189, 2) := by decide +kernel
theorem dX12_lookFor_10 : decode cX12_lookFor 10 = .ok (.istore 4, 2) := by decide +kernel
theorem dX12_lookFor_12 : decode cX12_lookFor 12 = .ok (.iconst 0, 1) := by decide +kernel
theorem dX12_lookFor_13 : decode cX12_lookFor 13 = .ok (.istore 5, 2) := by decide +kernel
theorem dX12_lookFor_15 : decode cX12_lookFor 15 = .ok (.iload 5, 2) := by decide +kernel
theorem dX12_lookFor_17 : decode cX12_lookFor 17 = .ok (.sipush 130, 3) := by decide +kernel
theorem dX12_lookFor_20 : decode cX12_lookFor 20 = .ok (.if_icmp .ge 61, 3) := by decide +kernel
theorem dX12_lookFor_23 : decode cX12_lookFor 23 = .ok (.iload_n 2, 1) := by decide +kernel
theorem dX12_lookFor_24 : decode cX12_lookFor 24 = .ok (.ifCond .eq 57, 3) := by decide +kernel
theorem dX12_lookFor_27 : decode cX12_lookFor 27 = .ok (.aload_n 0, 1) := by decide +kernel
theorem dX12_lookFor_28 : decode cX12_lookFor 28 = .ok (.iload_n 1, 1) := by decide +kernel
theorem dX12_lookFor_29 : decode cX12_lookFor 29 = .ok (.iload_n 2, 1) := by decide +kernel
theorem dX12_lookFor_30 : decode cX12_lookFor 30 = .ok (.iload 5, 2) := by decide +kernel
theorem dX12_lookFor_32 : decode cX12_lookFor 32 = .ok (.bipush 10, 2) := by decide +kernel
theorem dX12_lookFor_34 : decode cX12_lookFor 34 = .ok (.idiv, 1) := by decide +kernel
theorem dX12_lookFor_35 : decode cX12_lookFor 35 = .ok (.iload 5, 2) := by decide +kernel
theorem dX12_lookFor_37 : decode cX12_lookFor 37 = .ok (.bipush 10, 2) := by decide +kernel
theorem dX12_lookFor_39 : decode cX12_lookFor 39 = .ok (.irem, 1) := by decide +kernel
theorem dX12_lookFor_40 : decode cX12_lookFor 40 = .ok (.invokevirtual 243, 3) := by decide +kernel
theorem dX12_lookFor_43 : decode cX12_lookFor 43 = .ok (.istore 6, 2) := by decide +kernel
theorem dX12_lookFor_45 : decode cX12_lookFor 45 = .ok (.iload 6, 2) := by decide +kernel
theorem dX12_lookFor_47 : decode cX12_lookFor 47 = .ok (.iload 4, 2) := by decide +kernel
theorem dX12_lookFor_49 : decode cX12_lookFor 49 = .ok (.if_icmp .ge 8, 3) := by decide +kernel
theorem dX12_lookFor_52 : decode cX12_lookFor 52 = .ok (.iload 5, 2) := by decide +kernel
theorem dX12_lookFor_54 : decode cX12_lookFor 54 = .ok (.goto 4, 3) := by decide +kernel
theorem dX12_lookFor_57 : decode cX12_lookFor 57 = .ok (.iload_n 3, 1) := by decide +kernel
theorem dX12_lookFor_58 : decode cX12_lookFor 58 = .ok (.istore_n 3, 1) := by decide +kernel
theorem dX12_lookFor_59 : decode cX12_lookFor 59 = .ok (.iload 6, 2) := by decide +kernel
theorem dX12_lookFor_61 : decode cX12_lookFor 61 = .ok (.iload 4, 2) := by decide +kernel
theorem dX12_lookFor_63 : decode cX12_lookFor 63 = .ok (.if_icmp .ge 8, 3) := by decide +kernel
theorem dX12_lookFor_66 : decode cX12_lookFor 66 = .ok (.iload 6, 2) := by decide +kernel
theorem dX12_lookFor_68 : decode cX12_lookFor 68 = .ok (.goto 5, 3) := by decide +kernel
theorem dX12_lookFor_71 : decode cX12_lookFor 71 = .ok (.iload 4, 2) := by decide +kernel
theorem dX12_lookFor_73 : decode cX12_lookFor 73 = .ok (.istore 4, 2) := by decide +kernel
theorem dX12_lookFor_75 : decode cX12_lookFor 75 = .ok (.iinc 5 1, 3) := by decide +kernel
theorem dX12_lookFor_78 : decode cX12_lookFor 78 = .ok (.goto (-63), 3) := by decide +kernel
theorem dX12_lookFor_81 : decode cX12_lookFor 81 = .ok (.iload_n 3, 1) := by decide +kernel
theorem dX12_lookFor_82 : decode cX12_lookFor 82 = .ok (.ireturn, 1) := by decide +kernel
theorem dX12_draw_0 : decode cX12_draw 0 = .ok (.aload_n 0, 1) := by decide +kernel
theorem dX12_draw_1 : decode cX12_draw 1 = .ok (.ldc2_w 246, 3) := by decide +kernel
theorem dX12_draw_4 : decode cX12_draw 4 = .ok (.aload_n 0, 1) := by decide +kernel
theorem dX12_draw_5 : decode cX12_draw 5 = .ok (.getfield 248, 3) := by decide +kernel
theorem dX12_draw_8 : decode cX12_draw 8 = .ok (.lmul, 1) := by decide +kernel
theorem dX12_draw_9 : decode cX12_draw 9 = .ok (.ldc2_w 252, 3) := by decide +kernel
theorem dX12_draw_12 : decode cX12_draw 12 = .ok (.ladd, 1) := by decide +kernel
theorem dX12_draw_13 : decode cX12_draw 13 = .ok (.ldc2_w 254, 3) := by decide +kernel
theorem dX12_draw_16 : decode cX12_draw 16 = .ok (.land, 1) := by decide +kernel
theorem dX12_draw_17 : decode cX12_draw 17 = .ok (.putfield 248, 3) := by decide +kernel
theorem dX12_draw_20 : decode cX12_draw 20 = .ok (.aload_n 0, 1) := by decide +kernel
theorem dX12_draw_21 : decode cX12_draw 21 = .ok (.getfield 248, 3) := by decide +kernel
theorem dX12_draw_24 : decode cX12_draw 24 = .ok (.ldc2_w 256, 3) := by decide +kernel
theorem dX12_draw_27 : decode cX12_draw 27 = .ok (.ldiv, 1) := by decide +kernel
theorem dX12_draw_28 : decode cX12_draw 28 = .ok (.iload_n 1, 1) := by decide +kernel
theorem dX12_draw_29 : decode cX12_draw 29 = .ok (.i2l, 1) := by decide +kernel
theorem dX12_draw_30 : decode cX12_draw 30 = .ok (.lrem, 1) := by decide +kernel
theorem dX12_draw_31 : decode cX12_draw 31 = .ok (.l2i, 1) := by decide +kernel
theorem dX12_draw_32 : decode cX12_draw 32 = .ok (.ireturn, 1) := by decide +kernel
theorem dX12_termsNow_0 : decode cX12_termsNow 0 = .ok (.aload_n 0, 1) := by decide +kernel
theorem dX12_termsNow_1 : decode cX12_termsNow 1 = .ok (.iload_n 2, 1) := by decide +kernel
theorem dX12_termsNow_2 : decode cX12_termsNow 2 = .ok (.i2l, 1) := by decide +kernel
theorem dX12_termsNow_3 : decode cX12_termsNow 3 = .ok (.putfield 248, 3) := by decide +kernel
theorem dX12_termsNow_6 : decode cX12_termsNow 6 = .ok (.iconst 0, 1) := by decide +kernel
theorem dX12_termsNow_7 : decode cX12_termsNow 7 = .ok (.istore 4, 2) := by decide +kernel
theorem dX12_termsNow_9 : decode cX12_termsNow 9 = .ok (.iconst 0, 1) := by decide +kernel
theorem dX12_termsNow_10 : decode cX12_termsNow 10 = .ok (.istore 5, 2) := by decide +kernel
theorem dX12_termsNow_12 : decode cX12_termsNow 12 = .ok (.iconst 0, 1) := by decide +kernel
theorem dX12_termsNow_13 : decode cX12_termsNow 13 = .ok (.istore 6, 2) := by decide +kernel
theorem dX12_termsNow_15 : decode cX12_termsNow 15 = .ok (.iload 6, 2) := by decide +kernel
theorem dX12_termsNow_17 : decode cX12_termsNow 17 = .ok (.iload_n 1, 1) := by decide +kernel
theorem dX12_termsNow_18 : decode cX12_termsNow 18 = .ok (.if_icmp .ge 89, 3) := by decide +kernel
theorem dX12_termsNow_21 : decode cX12_termsNow 21 = .ok (.aload_n 0, 1) := by decide +kernel
theorem dX12_termsNow_22 : decode cX12_termsNow 22 = .ok (.aload_n 0, 1) := by decide +kernel
theorem dX12_termsNow_23 : decode cX12_termsNow 23 = .ok (.getfield 116, 3) := by decide +kernel
theorem dX12_termsNow_26 : decode cX12_termsNow 26 = .ok (.invokevirtual 258, 3) := by decide +kernel
theorem dX12_termsNow_29 : decode cX12_termsNow 29 = .ok (.istore 7, 2) := by decide +kernel
theorem dX12_termsNow_31 : decode cX12_termsNow 31 = .ok (.aload_n 0, 1) := by decide +kernel
theorem dX12_termsNow_32 : decode cX12_termsNow 32 = .ok (.aload_n 0, 1) := by decide +kernel
theorem dX12_termsNow_33 : decode cX12_termsNow 33 = .ok (.getfield 116, 3) := by decide +kernel
theorem dX12_termsNow_36 : decode cX12_termsNow 36 = .ok (.invokevirtual 258, 3) := by decide +kernel
theorem dX12_termsNow_39 : decode cX12_termsNow 39 = .ok (.istore 8, 2) := by decide +kernel
theorem dX12_termsNow_41 : decode cX12_termsNow 41 = .ok (.aload_n 0, 1) := by decide +kernel
theorem dX12_termsNow_42 : decode cX12_termsNow 42 = .ok (.iload 7, 2) := by decide +kernel
theorem dX12_termsNow_44 : decode cX12_termsNow 44 = .ok (.iload 8, 2) := by decide +kernel
theorem dX12_termsNow_46 : decode cX12_termsNow 46 = .ok (.aload_n 0, 1) := by decide +kernel
theorem dX12_termsNow_47 : decode cX12_termsNow 47 = .ok (.bipush 13, 2) := by decide +kernel
theorem dX12_termsNow_49 : decode cX12_termsNow 49 = .ok (.invokevirtual 258, 3) := by decide +kernel
theorem dX12_termsNow_52 : decode cX12_termsNow 52 = .ok (.invokevirtual 186, 3) := by decide +kernel
theorem dX12_termsNow_55 : decode cX12_termsNow 55 = .ok (.istore 9, 2) := by decide +kernel
theorem dX12_termsNow_57 : decode cX12_termsNow 57 = .ok (.iload 4, 2) := by decide +kernel
theorem dX12_termsNow_59 : decode cX12_termsNow 59 = .ok (.iload 7, 2) := by decide +kernel
theorem dX12_termsNow_61 : decode cX12_termsNow 61 = .ok (.iload 8, 2) := by decide +kernel
theorem dX12_termsNow_63 : decode cX12_termsNow 63 = .ok (.if_icmp .eq 12, 3) := by decide +kernel
theorem dX12_termsNow_66 : decode cX12_termsNow 66 = .ok (.iload 9, 2) := by decide +kernel
theorem dX12_termsNow_68 : decode cX12_termsNow 68 = .ok (.ifCond .le 7, 3) := by decide +kernel
theorem dX12_termsNow_71 : decode cX12_termsNow 71 = .ok (.iconst 1, 1) := by decide +kernel
theorem dX12_termsNow_72 : decode cX12_termsNow 72 = .ok (.goto 4, 3) := by decide +kernel
theorem dX12_termsNow_75 : decode cX12_termsNow 75 = .ok (.iconst 0, 1) := by decide +kernel
theorem dX12_termsNow_76 : decode cX12_termsNow 76 = .ok (.iadd, 1) := by decide +kernel
theorem dX12_termsNow_77 : decode cX12_termsNow 77 = .ok (.istore 4, 2) := by decide +kernel
theorem dX12_termsNow_79 : decode cX12_termsNow 79 = .ok (.iload 5, 2) := by decide +kernel
theorem dX12_termsNow_81 : decode cX12_termsNow 81 = .ok (.iload 7, 2) := by decide +kernel
theorem dX12_termsNow_83 : decode cX12_termsNow 83 = .ok (.iload 8, 2) := by decide +kernel
theorem dX12_termsNow_85 : decode cX12_termsNow 85 = .ok (.if_icmp .eq 12, 3) := by decide +kernel
theorem dX12_termsNow_88 : decode cX12_termsNow 88 = .ok (.iload 9, 2) := by decide +kernel
theorem dX12_termsNow_90 : decode cX12_termsNow 90 = .ok (.ifCond .ne 7, 3) := by decide +kernel
theorem dX12_termsNow_93 : decode cX12_termsNow 93 = .ok (.iconst 1, 1) := by decide +kernel
theorem dX12_termsNow_94 : decode cX12_termsNow 94 = .ok (.goto 4, 3) := by decide +kernel
theorem dX12_termsNow_97 : decode cX12_termsNow 97 = .ok (.iconst 0, 1) := by decide +kernel
theorem dX12_termsNow_98 : decode cX12_termsNow 98 = .ok (.iadd, 1) := by decide +kernel
theorem dX12_termsNow_99 : decode cX12_termsNow 99 = .ok (.istore 5, 2) := by decide +kernel
theorem dX12_termsNow_101 : decode cX12_termsNow 101 = .ok (.iinc 6 1, 3) := by decide +kernel
theorem dX12_termsNow_104 : decode cX12_termsNow 104 = .ok (.goto (-89), 3) := by decide +kernel
theorem dX12_termsNow_107 : decode cX12_termsNow 107 = .ok (.iload_n 3, 1) := by decide +kernel
theorem dX12_termsNow_108 : decode cX12_termsNow 108 = .ok (.ifCond .ne 8, 3) := by decide +kernel
theorem dX12_termsNow_111 : decode cX12_termsNow 111 = .ok (.iload 4, 2) := by decide +kernel
theorem dX12_termsNow_113 : decode cX12_termsNow 113 = .ok (.goto 18, 3) := by decide +kernel
theorem dX12_termsNow_116 : decode cX12_termsNow 116 = .ok (.iload_n 3, 1) := by decide +kernel
theorem dX12_termsNow_117 : decode cX12_termsNow 117 = .ok (.iconst 1, 1) := by decide +kernel
theorem dX12_termsNow_118 : decode cX12_termsNow 118 = .ok (.if_icmp .ne 8, 3) := by decide +kernel
theorem dX12_termsNow_121 : decode cX12_termsNow 121 = .ok (.iload 5, 2) := by decide +kernel
theorem dX12_termsNow_123 : decode cX12_termsNow 123 = .ok (.goto 8, 3) := by decide +kernel
theorem dX12_termsNow_126 : decode cX12_termsNow 126 = .ok (.aload_n 0, 1) := by decide +kernel
theorem dX12_termsNow_127 : decode cX12_termsNow 127 = .ok (.getfield 248, 3) := by decide +kernel
theorem dX12_termsNow_130 : decode cX12_termsNow 130 = .ok (.l2i, 1) := by decide +kernel
theorem dX12_termsNow_131 : decode cX12_termsNow 131 = .ok (.ireturn, 1) := by decide +kernel
theorem dX12_terms_0 : decode cX12_terms 0 = .ok (.iload_n 1, 1) := by decide +kernel
theorem dX12_terms_1 : decode cX12_terms 1 = .ok (.iconst 1, 1) := by decide +kernel
theorem dX12_terms_2 : decode cX12_terms 2 = .ok (.bipush 60, 2) := by decide +kernel
theorem dX12_terms_4 : decode cX12_terms 4 = .ok (.invokestatic 83, 3) := by decide +kernel
theorem dX12_terms_7 : decode cX12_terms 7 = .ok (.ifCond .eq 16, 3) := by decide +kernel
theorem dX12_terms_10 : decode cX12_terms 10 = .ok (.iload_n 2, 1) := by decide +kernel
theorem dX12_terms_11 : decode cX12_terms 11 = .ok (.ifCond .lt 12, 3) := by decide +kernel
theorem dX12_terms_14 : decode cX12_terms 14 = .ok (.iload_n 3, 1) := by decide +kernel
theorem dX12_terms_15 : decode cX12_terms 15 = .ok (.iconst 0, 1) := by decide +kernel
theorem dX12_terms_16 : decode cX12_terms 16 = .ok (.iconst 2, 1) := by decide +kernel
theorem dX12_terms_17 : decode cX12_terms 17 = .ok (.invokestatic 83, 3) := by decide +kernel
theorem dX12_terms_20 : decode cX12_terms 20 = .ok (.ifCond .ne 6, 3) := by decide +kernel
theorem dX12_terms_23 : decode cX12_terms 23 = .ok (.bipush (-102), 2) := by decide +kernel
theorem dX12_terms_25 : decode cX12_terms 25 = .ok (.ireturn, 1) := by decide +kernel
theorem dX12_terms_26 : decode cX12_terms 26 = .ok (.aload_n 0, 1) := by decide +kernel
theorem dX12_terms_27 : decode cX12_terms 27 = .ok (.getfield 116, 3) := by decide +kernel
theorem dX12_terms_30 : decode cX12_terms 30 = .ok (.ifCond .ne 8, 3) := by decide +kernel
theorem dX12_terms_33 : decode cX12_terms 33 = .ok (.bipush (-103), 2) := by decide +kernel
theorem dX12_terms_35 : decode cX12_terms 35 = .ok (.goto 10, 3) := by decide +kernel
theorem dX12_terms_38 : decode cX12_terms 38 = .ok (.aload_n 0, 1) := by decide +kernel
theorem dX12_terms_39 : decode cX12_terms 39 = .ok (.iload_n 1, 1) := by decide +kernel
theorem dX12_terms_40 : decode cX12_terms 40 = .ok (.iload_n 2, 1) := by decide +kernel
theorem dX12_terms_41 : decode cX12_terms 41 = .ok (.iload_n 3, 1) := by decide +kernel
theorem dX12_terms_42 : decode cX12_terms 42 = .ok (.invokevirtual 261, 3) := by decide +kernel
theorem dX12_terms_45 : decode cX12_terms 45 = .ok (.ireturn, 1) := by decide +kernel
theorem dX12_image_0 : decode cX12_image 0 = .ok (.aload_n 0, 1) := by decide +kernel
theorem dX12_image_1 : decode cX12_image 1 = .ok (.getfield 116, 3) := by decide +kernel
theorem dX12_image_4 : decode cX12_image 4 = .ok (.ifCond .ne 6, 3) := by decide +kernel
theorem dX12_image_7 : decode cX12_image 7 = .ok (.bipush (-103), 2) := by decide +kernel
theorem dX12_image_9 : decode cX12_image 9 = .ok (.ireturn, 1) := by decide +kernel
theorem dX12_image_10 : decode cX12_image 10 = .ok (.aload_n 0, 1) := by decide +kernel
theorem dX12_image_11 : decode cX12_image 11 = .ok (.iconst 1, 1) := by decide +kernel
theorem dX12_image_12 : decode cX12_image 12 = .ok (.putfield 264, 3) := by decide +kernel
theorem dX12_image_15 : decode cX12_image 15 = .ok (.aload_n 0, 1) := by decide +kernel
theorem dX12_image_16 : decode cX12_image 16 = .ok (.aload_n 0, 1) := by decide +kernel
theorem dX12_image_17 : decode cX12_image 17 = .ok (.getfield 128, 3) := by decide +kernel
theorem dX12_image_20 : decode cX12_image 20 = .ok (.putfield 267, 3) := by decide +kernel
theorem dX12_image_23 : decode cX12_image 23 = .ok (.aload_n 0, 1) := by decide +kernel
theorem dX12_image_24 : decode cX12_image 24 = .ok (.aload_n 0, 1) := by decide +kernel
theorem dX12_image_25 : decode cX12_image 25 = .ok (.getfield 119, 3) := by decide +kernel
theorem dX12_image_28 : decode cX12_image 28 = .ok (.putfield 270, 3) := by decide +kernel
theorem dX12_image_31 : decode cX12_image 31 = .ok (.aload_n 0, 1) := by decide +kernel
theorem dX12_image_32 : decode cX12_image 32 = .ok (.aload_n 0, 1) := by decide +kernel
theorem dX12_image_33 : decode cX12_image 33 = .ok (.getfield 122, 3) := by decide +kernel
theorem dX12_image_36 : decode cX12_image 36 = .ok (.putfield 273, 3) := by decide +kernel
theorem dX12_image_39 : decode cX12_image 39 = .ok (.aload_n 0, 1) := by decide +kernel
theorem dX12_image_40 : decode cX12_image 40 = .ok (.aload_n 0, 1) := by decide +kernel
theorem dX12_image_41 : decode cX12_image 41 = .ok (.getfield 125, 3) := by decide +kernel
theorem dX12_image_44 : decode cX12_image 44 = .ok (.putfield 276, 3) := by decide +kernel
theorem dX12_image_47 : decode cX12_image 47 = .ok (.aload_n 0, 1) := by decide +kernel
theorem dX12_image_48 : decode cX12_image 48 = .ok (.aload_n 0, 1) := by decide +kernel
theorem dX12_image_49 : decode cX12_image 49 = .ok (.getfield 131, 3) := by decide +kernel
theorem dX12_image_52 : decode cX12_image 52 = .ok (.putfield 279, 3) := by decide +kernel
theorem dX12_image_55 : decode cX12_image 55 = .ok (.iconst 0, 1) := by decide +kernel
theorem dX12_image_56 : decode cX12_image 56 = .ok (.istore_n 1, 1) := by decide +kernel
theorem dX12_image_57 : decode cX12_image 57 = .ok (.iload_n 1, 1) := by decide +kernel
theorem dX12_image_58 : decode cX12_image 58 = .ok (.bipush 10, 2) := by decide +kernel
theorem dX12_image_60 : decode cX12_image 60 = .ok (.if_icmp .ge 21, 3) := by decide +kernel
theorem dX12_image_63 : decode cX12_image 63 = .ok (.aload_n 0, 1) := by decide +kernel
theorem dX12_image_64 : decode cX12_image 64 = .ok (.getfield 56, 3) := by decide +kernel
theorem dX12_image_67 : decode cX12_image 67 = .ok (.iload_n 1, 1) := by decide +kernel
theorem dX12_image_68 : decode cX12_image 68 = .ok (.aload_n 0, 1) := by decide +kernel
theorem dX12_image_69 : decode cX12_image 69 = .ok (.getfield 7, 3) := by decide +kernel
theorem dX12_image_72 : decode cX12_image 72 = .ok (.iload_n 1, 1) := by decide +kernel
theorem dX12_image_73 : decode cX12_image 73 = .ok (.iaload, 1) := by decide +kernel
theorem dX12_image_74 : decode cX12_image 74 = .ok (.iastore, 1) := by decide +kernel
theorem dX12_image_75 : decode cX12_image 75 = .ok (.iinc 1 1, 3) := by decide +kernel
theorem dX12_image_78 : decode cX12_image 78 = .ok (.goto (-21), 3) := by decide +kernel
theorem dX12_image_81 : decode cX12_image 81 = .ok (.iconst 0, 1) := by decide +kernel
theorem dX12_image_82 : decode cX12_image 82 = .ok (.istore_n 1, 1) := by decide +kernel
theorem dX12_image_83 : decode cX12_image 83 = .ok (.iload_n 1, 1) := by decide +kernel
theorem dX12_image_84 : decode cX12_image 84 = .ok (.iconst 5, 1) := by decide +kernel
theorem dX12_image_85 : decode cX12_image 85 = .ok (.if_icmp .ge 57, 3) := by decide +kernel
theorem dX12_image_88 : decode cX12_image 88 = .ok (.aload_n 0, 1) := by decide +kernel
theorem dX12_image_89 : decode cX12_image 89 = .ok (.getfield 59, 3) := by decide +kernel
theorem dX12_image_92 : decode cX12_image 92 = .ok (.iload_n 1, 1) := by decide +kernel
theorem dX12_image_93 : decode cX12_image 93 = .ok (.aload_n 0, 1) := by decide +kernel
theorem dX12_image_94 : decode cX12_image 94 = .ok (.getfield 16, 3) := by decide +kernel
theorem dX12_image_97 : decode cX12_image 97 = .ok (.iload_n 1, 1) := by decide +kernel
theorem dX12_image_98 : decode cX12_image 98 = .ok (.iaload, 1) := by decide +kernel
theorem dX12_image_99 : decode cX12_image 99 = .ok (.iastore, 1) := by decide +kernel
theorem dX12_image_100 : decode cX12_image 100 = .ok (.aload_n 0, 1) := by decide +kernel
theorem dX12_image_101 : decode cX12_image 101 = .ok (.getfield 62, 3) := by decide +kernel
theorem dX12_image_104 : decode cX12_image 104 = .ok (.iload_n 1, 1) := by decide +kernel
theorem dX12_image_105 : decode cX12_image 105 = .ok (.aload_n 0, 1) := by decide +kernel
theorem dX12_image_106 : decode cX12_image 106 = .ok (.getfield 19, 3) := by decide +kernel
theorem dX12_image_109 : decode cX12_image 109 = .ok (.iload_n 1, 1) := by decide +kernel
theorem dX12_image_110 : decode cX12_image 110 = .ok (.iaload, 1) := by decide +kernel
theorem dX12_image_111 : decode cX12_image 111 = .ok (.iastore, 1) := by decide +kernel
theorem dX12_image_112 : decode cX12_image 112 = .ok (.aload_n 0, 1) := by decide +kernel
theorem dX12_image_113 : decode cX12_image 113 = .ok (.getfield 65, 3) := by decide +kernel
theorem dX12_image_116 : decode cX12_image 116 = .ok (.iload_n 1, 1) := by decide +kernel
theorem dX12_image_117 : decode cX12_image 117 = .ok (.aload_n 0, 1) := by decide +kernel
theorem dX12_image_118 : decode cX12_image 118 = .ok (.getfield 22, 3) := by decide +kernel
theorem dX12_image_121 : decode cX12_image 121 = .ok (.iload_n 1, 1) := by decide +kernel
theorem dX12_image_122 : decode cX12_image 122 = .ok (.iaload, 1) := by decide +kernel
theorem dX12_image_123 : decode cX12_image 123 = .ok (.iastore, 1) := by decide +kernel
theorem dX12_image_124 : decode cX12_image 124 = .ok (.aload_n 0, 1) := by decide +kernel
theorem dX12_image_125 : decode cX12_image 125 = .ok (.getfield 68, 3) := by decide +kernel
theorem dX12_image_128 : decode cX12_image 128 = .ok (.iload_n 1, 1) := by decide +kernel
theorem dX12_image_129 : decode cX12_image 129 = .ok (.aload_n 0, 1) := by decide +kernel
theorem dX12_image_130 : decode cX12_image 130 = .ok (.getfield 25, 3) := by decide +kernel
theorem dX12_image_133 : decode cX12_image 133 = .ok (.iload_n 1, 1) := by decide +kernel
theorem dX12_image_134 : decode cX12_image 134 = .ok (.iaload, 1) := by decide +kernel
theorem dX12_image_135 : decode cX12_image 135 = .ok (.iastore, 1) := by decide +kernel
theorem dX12_image_136 : decode cX12_image 136 = .ok (.iinc 1 1, 3) := by decide +kernel
theorem dX12_image_139 : decode cX12_image 139 = .ok (.goto (-56), 3) := by decide +kernel
theorem dX12_image_142 : decode cX12_image 142 = .ok (.iconst 0, 1) := by decide +kernel
theorem dX12_image_143 : decode cX12_image 143 = .ok (.istore_n 1, 1) := by decide +kernel
theorem dX12_image_144 : decode cX12_image 144 = .ok (.iload_n 1, 1) := by decide +kernel
theorem dX12_image_145 : decode cX12_image 145 = .ok (.bipush 8, 2) := by decide +kernel
theorem dX12_image_147 : decode cX12_image 147 = .ok (.if_icmp .ge 57, 3) := by decide +kernel
theorem dX12_image_150 : decode cX12_image 150 = .ok (.aload_n 0, 1) := by decide +kernel
theorem dX12_image_151 : decode cX12_image 151 = .ok (.getfield 71, 3) := by decide +kernel
theorem dX12_image_154 : decode cX12_image 154 = .ok (.iload_n 1, 1) := by decide +kernel
theorem dX12_image_155 : decode cX12_image 155 = .ok (.aload_n 0, 1) := by decide +kernel
theorem dX12_image_156 : decode cX12_image 156 = .ok (.getfield 28, 3) := by decide +kernel
theorem dX12_image_159 : decode cX12_image 159 = .ok (.iload_n 1, 1) := by decide +kernel
theorem dX12_image_160 : decode cX12_image 160 = .ok (.iaload, 1) := by decide +kernel
theorem dX12_image_161 : decode cX12_image 161 = .ok (.iastore, 1) := by decide +kernel
theorem dX12_image_162 : decode cX12_image 162 = .ok (.aload_n 0, 1) := by decide +kernel
theorem dX12_image_163 : decode cX12_image 163 = .ok (.getfield 74, 3) := by decide +kernel
theorem dX12_image_166 : decode cX12_image 166 = .ok (.iload_n 1, 1) := by decide +kernel
theorem dX12_image_167 : decode cX12_image 167 = .ok (.aload_n 0, 1) := by decide +kernel
theorem dX12_image_168 : decode cX12_image 168 = .ok (.getfield 31, 3) := by decide +kernel
theorem dX12_image_171 : decode cX12_image 171 = .ok (.iload_n 1, 1) := by decide +kernel
theorem dX12_image_172 : decode cX12_image 172 = .ok (.iaload, 1) := by decide +kernel
theorem dX12_image_173 : decode cX12_image 173 = .ok (.iastore, 1) := by decide +kernel
theorem dX12_image_174 : decode cX12_image 174 = .ok (.aload_n 0, 1) := by decide +kernel
theorem dX12_image_175 : decode cX12_image 175 = .ok (.getfield 77, 3) := by decide +kernel
theorem dX12_image_178 : decode cX12_image 178 = .ok (.iload_n 1, 1) := by decide +kernel
theorem dX12_image_179 : decode cX12_image 179 = .ok (.aload_n 0, 1) := by decide +kernel
theorem dX12_image_180 : decode cX12_image 180 = .ok (.getfield 34, 3) := by decide +kernel
theorem dX12_image_183 : decode cX12_image 183 = .ok (.iload_n 1, 1) := by decide +kernel
theorem dX12_image_184 : decode cX12_image 184 = .ok (.iaload, 1) := by decide +kernel
theorem dX12_image_185 : decode cX12_image 185 = .ok (.iastore, 1) := by decide +kernel
theorem dX12_image_186 : decode cX12_image 186 = .ok (.aload_n 0, 1) := by decide +kernel
theorem dX12_image_187 : decode cX12_image 187 = .ok (.getfield 80, 3) := by decide +kernel
theorem dX12_image_190 : decode cX12_image 190 = .ok (.iload_n 1, 1) := by decide +kernel
theorem dX12_image_191 : decode cX12_image 191 = .ok (.aload_n 0, 1) := by decide +kernel
theorem dX12_image_192 : decode cX12_image 192 = .ok (.getfield 37, 3) := by decide +kernel
theorem dX12_image_195 : decode cX12_image 195 = .ok (.iload_n 1, 1) := by decide +kernel
theorem dX12_image_196 : decode cX12_image 196 = .ok (.iaload, 1) := by decide +kernel
theorem dX12_image_197 : decode cX12_image 197 = .ok (.iastore, 1) := by decide +kernel
theorem dX12_image_198 : decode cX12_image 198 = .ok (.iinc 1 1, 3) := by decide +kernel
theorem dX12_image_201 : decode cX12_image 201 = .ok (.goto (-57), 3) := by decide +kernel
theorem dX12_image_204 : decode cX12_image 204 = .ok (.bipush 13, 2) := by decide +kernel
theorem dX12_image_206 : decode cX12_image 206 = .ok (.aload_n 0, 1) := by decide +kernel
theorem dX12_image_207 : decode cX12_image 207 = .ok (.getfield 122, 3) := by decide +kernel
theorem dX12_image_210 : decode cX12_image 210 = .ok (.imul, 1) := by decide +kernel
theorem dX12_image_211 : decode cX12_image 211 = .ok (.aload_n 0, 1) := by decide +kernel
theorem dX12_image_212 : decode cX12_image 212 = .ok (.getfield 119, 3) := by decide +kernel
theorem dX12_image_215 : decode cX12_image 215 = .ok (.iadd, 1) := by decide +kernel
theorem dX12_image_216 : decode cX12_image 216 = .ok (.ireturn, 1) := by decide +kernel
theorem dX12_restore_0 : decode cX12_restore 0 = .ok (.aload_n 0, 1) := by decide +kernel
theorem dX12_restore_1 : decode cX12_restore 1 = .ok (.getfield 264, 3) := by decide +kernel
theorem dX12_restore_4 : decode cX12_restore 4 = .ok (.ifCond .eq 14, 3) := by decide +kernel
theorem dX12_restore_7 : decode cX12_restore 7 = .ok (.aload_n 0, 1) := by decide +kernel
theorem dX12_restore_8 : decode cX12_restore 8 = .ok (.getfield 267, 3) := by decide +kernel
theorem dX12_restore_11 : decode cX12_restore 11 = .ok (.aload_n 0, 1) := by decide +kernel
theorem dX12_restore_12 : decode cX12_restore 12 = .ok (.getfield 128, 3) := by decide +kernel
theorem dX12_restore_15 : decode cX12_restore 15 = .ok (.if_icmp .eq 6, 3) := by decide +kernel
theorem dX12_restore_18 : decode cX12_restore 18 = .ok (.bipush (-103), 2) := by decide +kernel
theorem dX12_restore_20 : decode cX12_restore 20 = .ok (.ireturn, 1) := by decide +kernel
theorem dX12_restore_21 : decode cX12_restore 21 = .ok (.aload_n 0, 1) := by decide +kernel
theorem dX12_restore_22 : decode cX12_restore 22 = .ok (.aload_n 0, 1) := by decide +kernel
theorem dX12_restore_23 : decode cX12_restore 23 = .ok (.getfield 270, 3) := by decide +kernel
theorem dX12_restore_26 : decode cX12_restore 26 = .ok (.putfield 119, 3) := by decide +kernel
theorem dX12_restore_29 : decode cX12_restore 29 = .ok (.aload_n 0, 1) := by decide +kernel
theorem dX12_restore_30 : decode cX12_restore 30 = .ok (.aload_n 0, 1) := by decide +kernel
theorem dX12_restore_31 : decode cX12_restore 31 = .ok (.getfield 273, 3) := by decide +kernel
theorem dX12_restore_34 : decode cX12_restore 34 = .ok (.putfield 122, 3) := by decide +kernel
theorem dX12_restore_37 : decode cX12_restore 37 = .ok (.aload_n 0, 1) := by decide +kernel
theorem dX12_restore_38 : decode cX12_restore 38 = .ok (.aload_n 0, 1) := by decide +kernel
theorem dX12_restore_39 : decode cX12_restore 39 = .ok (.getfield 276, 3) := by decide +kernel
theorem dX12_restore_42 : decode cX12_restore 42 = .ok (.putfield 125, 3) := by decide +kernel
theorem dX12_restore_45 : decode cX12_restore 45 = .ok (.aload_n 0, 1) := by decide +kernel
theorem dX12_restore_46 : decode cX12_restore 46 = .ok (.aload_n 0, 1) := by decide +kernel
theorem dX12_restore_47 : decode cX12_restore 47 = .ok (.getfield 279, 3) := by decide +kernel
theorem dX12_restore_50 : decode cX12_restore 50 = .ok (.putfield 131, 3) := by decide +kernel
theorem dX12_restore_53 : decode cX12_restore 53 = .ok (.iconst 0, 1) := by decide +kernel
theorem dX12_restore_54 : decode cX12_restore 54 = .ok (.istore_n 1, 1) := by decide +kernel
theorem dX12_restore_55 : decode cX12_restore 55 = .ok (.iload_n 1, 1) := by decide +kernel
theorem dX12_restore_56 : decode cX12_restore 56 = .ok (.bipush 10, 2) := by decide +kernel
theorem dX12_restore_58 : decode cX12_restore 58 = .ok (.if_icmp .ge 21, 3) := by decide +kernel
theorem dX12_restore_61 : decode cX12_restore 61 = .ok (.aload_n 0, 1) := by decide +kernel
theorem dX12_restore_62 : decode cX12_restore 62 = .ok (.getfield 7, 3) := by decide +kernel
theorem dX12_restore_65 : decode cX12_restore 65 = .ok (.iload_n 1, 1) := by decide +kernel
theorem dX12_restore_66 : decode cX12_restore 66 = .ok (.aload_n 0, 1) := by decide +kernel
theorem dX12_restore_67 : decode cX12_restore 67 = .ok (.getfield 56, 3) := by decide +kernel
theorem dX12_restore_70 : decode cX12_restore 70 = .ok (.iload_n 1, 1) := by decide +kernel
theorem dX12_restore_71 : decode cX12_restore 71 = .ok (.iaload, 1) := by decide +kernel
theorem dX12_restore_72 : decode cX12_restore 72 = .ok (.iastore, 1) := by decide +kernel
theorem dX12_restore_73 : decode cX12_restore 73 = .ok (.iinc 1 1, 3) := by decide +kernel
theorem dX12_restore_76 : decode cX12_restore 76 = .ok (.goto (-21), 3) := by decide +kernel
theorem dX12_restore_79 : decode cX12_restore 79 = .ok (.iconst 0, 1) := by decide +kernel
theorem dX12_restore_80 : decode cX12_restore 80 = .ok (.istore_n 1, 1) := by decide +kernel
theorem dX12_restore_81 : decode cX12_restore 81 = .ok (.iload_n 1, 1) := by decide +kernel
theorem dX12_restore_82 : decode cX12_restore 82 = .ok (.iconst 5, 1) := by decide +kernel
theorem dX12_restore_83 : decode cX12_restore 83 = .ok (.if_icmp .ge 57, 3) := by decide +kernel
theorem dX12_restore_86 : decode cX12_restore 86 = .ok (.aload_n 0, 1) := by decide +kernel
theorem dX12_restore_87 : decode cX12_restore 87 = .ok (.getfield 16, 3) := by decide +kernel
theorem dX12_restore_90 : decode cX12_restore 90 = .ok (.iload_n 1, 1) := by decide +kernel
theorem dX12_restore_91 : decode cX12_restore 91 = .ok (.aload_n 0, 1) := by decide +kernel
theorem dX12_restore_92 : decode cX12_restore 92 = .ok (.getfield 59, 3) := by decide +kernel
theorem dX12_restore_95 : decode cX12_restore 95 = .ok (.iload_n 1, 1) := by decide +kernel
theorem dX12_restore_96 : decode cX12_restore 96 = .ok (.iaload, 1) := by decide +kernel
theorem dX12_restore_97 : decode cX12_restore 97 = .ok (.iastore, 1) := by decide +kernel
theorem dX12_restore_98 : decode cX12_restore 98 = .ok (.aload_n 0, 1) := by decide +kernel
theorem dX12_restore_99 : decode cX12_restore 99 = .ok (.getfield 19, 3) := by decide +kernel
theorem dX12_restore_102 : decode cX12_restore 102 = .ok (.iload_n 1, 1) := by decide +kernel
theorem dX12_restore_103 : decode cX12_restore 103 = .ok (.aload_n 0, 1) := by decide +kernel
theorem dX12_restore_104 : decode cX12_restore 104 = .ok (.getfield 62, 3) := by decide +kernel
theorem dX12_restore_107 : decode cX12_restore 107 = .ok (.iload_n 1, 1) := by decide +kernel
theorem dX12_restore_108 : decode cX12_restore 108 = .ok (.iaload, 1) := by decide +kernel
theorem dX12_restore_109 : decode cX12_restore 109 = .ok (.iastore, 1) := by decide +kernel
theorem dX12_restore_110 : decode cX12_restore 110 = .ok (.aload_n 0, 1) := by decide +kernel
theorem dX12_restore_111 : decode cX12_restore 111 = .ok (.getfield 22, 3) := by decide +kernel
theorem dX12_restore_114 : decode cX12_restore 114 = .ok (.iload_n 1, 1) := by decide +kernel
theorem dX12_restore_115 : decode cX12_restore 115 = .ok (.aload_n 0, 1) := by decide +kernel
theorem dX12_restore_116 : decode cX12_restore 116 = .ok (.getfield 65, 3) := by decide +kernel
theorem dX12_restore_119 : decode cX12_restore 119 = .ok (.iload_n 1, 1) := by decide +kernel
theorem dX12_restore_120 : decode cX12_restore 120 = .ok (.iaload, 1) := by decide +kernel
theorem dX12_restore_121 : decode cX12_restore 121 = .ok (.iastore, 1) := by decide +kernel
theorem dX12_restore_122 : decode cX12_restore 122 = .ok (.aload_n 0, 1) := by decide +kernel
theorem dX12_restore_123 : decode cX12_restore 123 = .ok (.getfield 25, 3) := by decide +kernel
theorem dX12_restore_126 : decode cX12_restore 126 = .ok (.iload_n 1, 1) := by decide +kernel
theorem dX12_restore_127 : decode cX12_restore 127 = .ok (.aload_n 0, 1) := by decide +kernel
theorem dX12_restore_128 : decode cX12_restore 128 = .ok (.getfield 68, 3) := by decide +kernel
theorem dX12_restore_131 : decode cX12_restore 131 = .ok (.iload_n 1, 1) := by decide +kernel
theorem dX12_restore_132 : decode cX12_restore 132 = .ok (.iaload, 1) := by decide +kernel
theorem dX12_restore_133 : decode cX12_restore 133 = .ok (.iastore, 1) := by decide +kernel
theorem dX12_restore_134 : decode cX12_restore 134 = .ok (.iinc 1 1, 3) := by decide +kernel
theorem dX12_restore_137 : decode cX12_restore 137 = .ok (.goto (-56), 3) := by decide +kernel
theorem dX12_restore_140 : decode cX12_restore 140 = .ok (.iconst 0, 1) := by decide +kernel
theorem dX12_restore_141 : decode cX12_restore 141 = .ok (.istore_n 1, 1) := by decide +kernel
theorem dX12_restore_142 : decode cX12_restore 142 = .ok (.iload_n 1, 1) := by decide +kernel
theorem dX12_restore_143 : decode cX12_restore 143 = .ok (.bipush 8, 2) := by decide +kernel
theorem dX12_restore_145 : decode cX12_restore 145 = .ok (.if_icmp .ge 57, 3) := by decide +kernel
theorem dX12_restore_148 : decode cX12_restore 148 = .ok (.aload_n 0, 1) := by decide +kernel
theorem dX12_restore_149 : decode cX12_restore 149 = .ok (.getfield 28, 3) := by decide +kernel
theorem dX12_restore_152 : decode cX12_restore 152 = .ok (.iload_n 1, 1) := by decide +kernel
theorem dX12_restore_153 : decode cX12_restore 153 = .ok (.aload_n 0, 1) := by decide +kernel
theorem dX12_restore_154 : decode cX12_restore 154 = .ok (.getfield 71, 3) := by decide +kernel
theorem dX12_restore_157 : decode cX12_restore 157 = .ok (.iload_n 1, 1) := by decide +kernel
theorem dX12_restore_158 : decode cX12_restore 158 = .ok (.iaload, 1) := by decide +kernel
theorem dX12_restore_159 : decode cX12_restore 159 = .ok (.iastore, 1) := by decide +kernel
theorem dX12_restore_160 : decode cX12_restore 160 = .ok (.aload_n 0, 1) := by decide +kernel
theorem dX12_restore_161 : decode cX12_restore 161 = .ok (.getfield 31, 3) := by decide +kernel
theorem dX12_restore_164 : decode cX12_restore 164 = .ok (.iload_n 1, 1) := by decide +kernel
theorem dX12_restore_165 : decode cX12_restore 165 = .ok (.aload_n 0, 1) := by decide +kernel
theorem dX12_restore_166 : decode cX12_restore 166 = .ok (.getfield 74, 3) := by decide +kernel
theorem dX12_restore_169 : decode cX12_restore 169 = .ok (.iload_n 1, 1) := by decide +kernel
theorem dX12_restore_170 : decode cX12_restore 170 = .ok (.iaload, 1) := by decide +kernel
theorem dX12_restore_171 : decode cX12_restore 171 = .ok (.iastore, 1) := by decide +kernel
theorem dX12_restore_172 : decode cX12_restore 172 = .ok (.aload_n 0, 1) := by decide +kernel
theorem dX12_restore_173 : decode cX12_restore 173 = .ok (.getfield 34, 3) := by decide +kernel
theorem dX12_restore_176 : decode cX12_restore 176 = .ok (.iload_n 1, 1) := by decide +kernel
theorem dX12_restore_177 : decode cX12_restore 177 = .ok (.aload_n 0, 1) := by decide +kernel
theorem dX12_restore_178 : decode cX12_restore 178 = .ok (.getfield 77, 3) := by decide +kernel
theorem dX12_restore_181 : decode cX12_restore 181 = .ok (.iload_n 1, 1) := by decide +kernel
theorem dX12_restore_182 : decode cX12_restore 182 = .ok (.iaload, 1) := by decide +kernel
theorem dX12_restore_183 : decode cX12_restore 183 = .ok (.iastore, 1) := by decide +kernel
theorem dX12_restore_184 : decode cX12_restore 184 = .ok (.aload_n 0, 1) := by decide +kernel
theorem dX12_restore_185 : decode cX12_restore 185 = .ok (.getfield 37, 3) := by decide +kernel
theorem dX12_restore_188 : decode cX12_restore 188 = .ok (.iload_n 1, 1) := by decide +kernel
theorem dX12_restore_189 : decode cX12_restore 189 = .ok (.aload_n 0, 1) := by decide +kernel
theorem dX12_restore_190 : decode cX12_restore 190 = .ok (.getfield 80, 3) := by decide +kernel
theorem dX12_restore_193 : decode cX12_restore 193 = .ok (.iload_n 1, 1) := by decide +kernel
theorem dX12_restore_194 : decode cX12_restore 194 = .ok (.iaload, 1) := by decide +kernel
theorem dX12_restore_195 : decode cX12_restore 195 = .ok (.iastore, 1) := by decide +kernel
theorem dX12_restore_196 : decode cX12_restore 196 = .ok (.iinc 1 1, 3) := by decide +kernel
theorem dX12_restore_199 : decode cX12_restore 199 = .ok (.goto (-57), 3) := by decide +kernel
theorem dX12_restore_202 : decode cX12_restore 202 = .ok (.bipush 13, 2) := by decide +kernel
theorem dX12_restore_204 : decode cX12_restore 204 = .ok (.aload_n 0, 1) := by decide +kernel
theorem dX12_restore_205 : decode cX12_restore 205 = .ok (.getfield 122, 3) := by decide +kernel
theorem dX12_restore_208 : decode cX12_restore 208 = .ok (.imul, 1) := by decide +kernel
theorem dX12_restore_209 : decode cX12_restore 209 = .ok (.aload_n 0, 1) := by decide +kernel
theorem dX12_restore_210 : decode cX12_restore 210 = .ok (.getfield 119, 3) := by decide +kernel
theorem dX12_restore_213 : decode cX12_restore 213 = .ok (.iadd, 1) := by decide +kernel
theorem dX12_restore_214 : decode cX12_restore 214 = .ok (.ireturn, 1) := by decide +kernel
theorem dX12_coveredBy_0 : decode cX12_coveredBy 0 = .ok (.iconst 0, 1) := by decide +kernel
theorem dX12_coveredBy_1 : decode cX12_coveredBy 1 = .ok (.istore_n 2, 1) := by decide +kernel
theorem dX12_coveredBy_2 : decode cX12_coveredBy 2 = .ok (.iconst 0, 1) := by decide +kernel
theorem dX12_coveredBy_3 : decode cX12_coveredBy 3 = .ok (.istore_n 3, 1) := by decide +kernel
theorem dX12_coveredBy_4 : decode cX12_coveredBy 4 = .ok (.iload_n 3, 1) := by decide +kernel
theorem dX12_coveredBy_5 : decode cX12_coveredBy 5 = .ok (.bipush 10, 2) := by decide +kernel
theorem dX12_coveredBy_7 : decode cX12_coveredBy 7 = .ok (.if_icmp .ge 30, 3) := by decide +kernel
theorem dX12_coveredBy_10 : decode cX12_coveredBy 10 = .ok (.iload_n 2, 1) := by decide +kernel
theorem dX12_coveredBy_11 : decode cX12_coveredBy 11 = .ok (.aload_n 0, 1) := by decide +kernel
theorem dX12_coveredBy_12 : decode cX12_coveredBy 12 = .ok (.iload_n 3, 1) := by decide +kernel
theorem dX12_coveredBy_13 : decode cX12_coveredBy 13 = .ok (.iconst 2, 1) := by decide +kernel
theorem dX12_coveredBy_14 : decode cX12_coveredBy 14 = .ok (.invokevirtual 180, 3) := by decide +kernel
theorem dX12_coveredBy_17 : decode cX12_coveredBy 17 = .ok (.invokestatic 212, 3) := by decide +kernel
theorem dX12_coveredBy_20 : decode cX12_coveredBy 20 = .ok (.iload_n 1, 1) := by decide +kernel
theorem dX12_coveredBy_21 : decode cX12_coveredBy 21 = .ok (.if_icmp .lt 7, 3) := by decide +kernel
theorem dX12_coveredBy_24 : decode cX12_coveredBy 24 = .ok (.iconst 1, 1) := by decide +kernel
theorem dX12_coveredBy_25 : decode cX12_coveredBy 25 = .ok (.goto 4, 3) := by decide +kernel
theorem dX12_coveredBy_28 : decode cX12_coveredBy 28 = .ok (.iconst 0, 1) := by decide +kernel
theorem dX12_coveredBy_29 : decode cX12_coveredBy 29 = .ok (.iadd, 1) := by decide +kernel
theorem dX12_coveredBy_30 : decode cX12_coveredBy 30 = .ok (.istore_n 2, 1) := by decide +kernel
theorem dX12_coveredBy_31 : decode cX12_coveredBy 31 = .ok (.iinc 3 1, 3) := by decide +kernel
theorem dX12_coveredBy_34 : decode cX12_coveredBy 34 = .ok (.goto (-30), 3) := by decide +kernel
theorem dX12_coveredBy_37 : decode cX12_coveredBy 37 = .ok (.iload_n 2, 1) := by decide +kernel
theorem dX12_coveredBy_38 : decode cX12_coveredBy 38 = .ok (.ireturn, 1) := by decide +kernel
theorem dX12_goodCases_0 : decode cX12_goodCases 0 = .ok (.iconst 0, 1) := by decide +kernel
theorem dX12_goodCases_1 : decode cX12_goodCases 1 = .ok (.istore_n 1, 1) := by decide +kernel
theorem dX12_goodCases_2 : decode cX12_goodCases 2 = .ok (.iconst 0, 1) := by decide +kernel
theorem dX12_goodCases_3 : decode cX12_goodCases 3 = .ok (.istore_n 2, 1) := by decide +kernel
theorem dX12_goodCases_4 : decode cX12_goodCases 4 = .ok (.iload_n 2, 1) := by decide +kernel
theorem dX12_goodCases_5 : decode cX12_goodCases 5 = .ok (.aload_n 0, 1) := by decide +kernel
theorem dX12_goodCases_6 : decode cX12_goodCases 6 = .ok (.getfield 125, 3) := by decide +kernel
theorem dX12_goodCases_9 : decode cX12_goodCases 9 = .ok (.if_icmp .ge 40, 3) := by decide +kernel
theorem dX12_goodCases_12 : decode cX12_goodCases 12 = .ok (.iload_n 1, 1) := by decide +kernel
theorem dX12_goodCases_13 : decode cX12_goodCases 13 = .ok (.aload_n 0, 1) := by decide +kernel
theorem dX12_goodCases_14 : decode cX12_goodCases 14 = .ok (.aload_n 0, 1) := by decide +kernel
theorem dX12_goodCases_15 : decode cX12_goodCases 15 = .ok (.getfield 22, 3) := by decide +kernel
theorem dX12_goodCases_18 : decode cX12_goodCases 18 = .ok (.iload_n 2, 1) := by decide +kernel
theorem dX12_goodCases_19 : decode cX12_goodCases 19 = .ok (.iaload, 1) := by decide +kernel
theorem dX12_goodCases_20 : decode cX12_goodCases 20 = .ok (.aload_n 0, 1) := by decide +kernel
theorem dX12_goodCases_21 : decode cX12_goodCases 21 = .ok (.getfield 25, 3) := by decide +kernel
theorem dX12_goodCases_24 : decode cX12_goodCases 24 = .ok (.iload_n 2, 1) := by decide +kernel
theorem dX12_goodCases_25 : decode cX12_goodCases 25 = .ok (.iaload, 1) := by decide +kernel
theorem dX12_goodCases_26 : decode cX12_goodCases 26 = .ok (.aload_n 0, 1) := by decide +kernel
theorem dX12_goodCases_27 : decode cX12_goodCases 27 = .ok (.getfield 119, 3) := by decide +kernel
theorem dX12_goodCases_30 : decode cX12_goodCases 30 = .ok (.invokevirtual 186, 3) := by decide +kernel
theorem dX12_goodCases_33 : decode cX12_goodCases 33 = .ok (.ifCond .le 7, 3) := by decide +kernel
theorem dX12_goodCases_36 : decode cX12_goodCases 36 = .ok (.iconst 1, 1) := by decide +kernel
theorem dX12_goodCases_37 : decode cX12_goodCases 37 = .ok (.goto 4, 3) := by decide +kernel
theorem dX12_goodCases_40 : decode cX12_goodCases 40 = .ok (.iconst 0, 1) := by decide +kernel
theorem dX12_goodCases_41 : decode cX12_goodCases 41 = .ok (.iadd, 1) := by decide +kernel
theorem dX12_goodCases_42 : decode cX12_goodCases 42 = .ok (.istore_n 1, 1) := by decide +kernel
theorem dX12_goodCases_43 : decode cX12_goodCases 43 = .ok (.iinc 2 1, 3) := by decide +kernel
theorem dX12_goodCases_46 : decode cX12_goodCases 46 = .ok (.goto (-42), 3) := by decide +kernel
theorem dX12_goodCases_49 : decode cX12_goodCases 49 = .ok (.iload_n 1, 1) := by decide +kernel
theorem dX12_goodCases_50 : decode cX12_goodCases 50 = .ok (.ireturn, 1) := by decide +kernel
theorem dX12_howMany_0 : decode cX12_howMany 0 = .ok (.iload_n 1, 1) := by decide +kernel
theorem dX12_howMany_1 : decode cX12_howMany 1 = .ok (.tableswitch 115 0 10 #[59, 64, 69, 74, 82, 82, 90, 95, 100, 105, 110], 59) := by decide +kernel
theorem dX12_howMany_60 : decode cX12_howMany 60 = .ok (.aload_n 0, 1) := by decide +kernel
theorem dX12_howMany_61 : decode cX12_howMany 61 = .ok (.getfield 116, 3) := by decide +kernel
theorem dX12_howMany_64 : decode cX12_howMany 64 = .ok (.ireturn, 1) := by decide +kernel
theorem dX12_howMany_65 : decode cX12_howMany 65 = .ok (.aload_n 0, 1) := by decide +kernel
theorem dX12_howMany_66 : decode cX12_howMany 66 = .ok (.getfield 119, 3) := by decide +kernel
theorem dX12_howMany_69 : decode cX12_howMany 69 = .ok (.ireturn, 1) := by decide +kernel
theorem dX12_howMany_70 : decode cX12_howMany 70 = .ok (.aload_n 0, 1) := by decide +kernel
theorem dX12_howMany_71 : decode cX12_howMany 71 = .ok (.getfield 122, 3) := by decide +kernel
theorem dX12_howMany_74 : decode cX12_howMany 74 = .ok (.ireturn, 1) := by decide +kernel
theorem dX12_howMany_75 : decode cX12_howMany 75 = .ok (.aload_n 0, 1) := by decide +kernel
theorem dX12_howMany_76 : decode cX12_howMany 76 = .ok (.sipush 1023, 3) := by decide +kernel
theorem dX12_howMany_79 : decode cX12_howMany 79 = .ok (.invokevirtual 159, 3) := by decide +kernel
theorem dX12_howMany_82 : decode cX12_howMany 82 = .ok (.ireturn, 1) := by decide +kernel
theorem dX12_howMany_83 : decode cX12_howMany 83 = .ok (.aload_n 0, 1) := by decide +kernel
theorem dX12_howMany_84 : decode cX12_howMany 84 = .ok (.iload_n 1, 1) := by decide +kernel
theorem dX12_howMany_85 : decode cX12_howMany 85 = .ok (.iconst 3, 1) := by decide +kernel
theorem dX12_howMany_86 : decode cX12_howMany 86 = .ok (.isub, 1) := by decide +kernel
theorem dX12_howMany_87 : decode cX12_howMany 87 = .ok (.invokevirtual 282, 3) := by decide +kernel
theorem dX12_howMany_90 : decode cX12_howMany 90 = .ok (.ireturn, 1) := by decide +kernel
theorem dX12_howMany_91 : decode cX12_howMany 91 = .ok (.aload_n 0, 1) := by decide +kernel
theorem dX12_howMany_92 : decode cX12_howMany 92 = .ok (.getfield 125, 3) := by decide +kernel
theorem dX12_howMany_95 : decode cX12_howMany 95 = .ok (.ireturn, 1) := by decide +kernel
theorem dX12_howMany_96 : decode cX12_howMany 96 = .ok (.aload_n 0, 1) := by decide +kernel
theorem dX12_howMany_97 : decode cX12_howMany 97 = .ok (.invokevirtual 285, 3) := by decide +kernel
theorem dX12_howMany_100 : decode cX12_howMany 100 = .ok (.ireturn, 1) := by decide +kernel
theorem dX12_howMany_101 : decode cX12_howMany 101 = .ok (.aload_n 0, 1) := by decide +kernel
theorem dX12_howMany_102 : decode cX12_howMany 102 = .ok (.getfield 131, 3) := by decide +kernel
theorem dX12_howMany_105 : decode cX12_howMany 105 = .ok (.ireturn, 1) := by decide +kernel
theorem dX12_howMany_106 : decode cX12_howMany 106 = .ok (.aload_n 0, 1) := by decide +kernel
theorem dX12_howMany_107 : decode cX12_howMany 107 = .ok (.getfield 87, 3) := by decide +kernel
theorem dX12_howMany_110 : decode cX12_howMany 110 = .ok (.ireturn, 1) := by decide +kernel
theorem dX12_howMany_111 : decode cX12_howMany 111 = .ok (.aload_n 0, 1) := by decide +kernel
theorem dX12_howMany_112 : decode cX12_howMany 112 = .ok (.getfield 128, 3) := by decide +kernel
theorem dX12_howMany_115 : decode cX12_howMany 115 = .ok (.ireturn, 1) := by decide +kernel
theorem dX12_howMany_116 : decode cX12_howMany 116 = .ok (.bipush (-102), 2) := by decide +kernel
theorem dX12_howMany_118 : decode cX12_howMany 118 = .ok (.ireturn, 1) := by decide +kernel
theorem dX12_count_0 : decode cX12_count 0 = .ok (.aload_n 0, 1) := by decide +kernel
theorem dX12_count_1 : decode cX12_count 1 = .ok (.iload_n 1, 1) := by decide +kernel
theorem dX12_count_2 : decode cX12_count 2 = .ok (.invokevirtual 288, 3) := by decide +kernel
theorem dX12_count_5 : decode cX12_count 5 = .ok (.ireturn, 1) := by decide +kernel
theorem dX12_mix_0 : decode cX12_mix 0 = .ok (.aload_n 0, 1) := by decide +kernel
theorem dX12_mix_1 : decode cX12_mix 1 = .ok (.ldc2_w 291, 3) := by decide +kernel
theorem dX12_mix_4 : decode cX12_mix 4 = .ok (.aload_n 0, 1) := by decide +kernel
theorem dX12_mix_5 : decode cX12_mix 5 = .ok (.getfield 293, 3) := by decide +kernel
theorem dX12_mix_8 : decode cX12_mix 8 = .ok (.lmul, 1) := by decide +kernel
theorem dX12_mix_9 : decode cX12_mix 9 = .ok (.lload_n 1, 1) := by decide +kernel
theorem dX12_mix_10 : decode cX12_mix 10 = .ok (.ladd, 1) := by decide +kernel
theorem dX12_mix_11 : decode cX12_mix 11 = .ok (.putfield 293, 3) := by decide +kernel
theorem dX12_mix_14 : decode cX12_mix 14 = .ok (.return_, 1) := by decide +kernel
theorem dX12_mixCourt_0 : decode cX12_mixCourt 0 = .ok (.iconst 0, 1) := by decide +kernel
theorem dX12_mixCourt_1 : decode cX12_mixCourt 1 = .ok (.istore_n 1, 1) := by decide +kernel
theorem dX12_mixCourt_2 : decode cX12_mixCourt 2 = .ok (.iload_n 1, 1) := by decide +kernel
theorem dX12_mixCourt_3 : decode cX12_mixCourt 3 = .ok (.bipush 10, 2) := by decide +kernel
theorem dX12_mixCourt_5 : decode cX12_mixCourt 5 = .ok (.if_icmp .ge 33, 3) := by decide +kernel
theorem dX12_mixCourt_8 : decode cX12_mixCourt 8 = .ok (.iconst 0, 1) := by decide +kernel
theorem dX12_mixCourt_9 : decode cX12_mixCourt 9 = .ok (.istore_n 2, 1) := by decide +kernel
theorem dX12_mixCourt_10 : decode cX12_mixCourt 10 = .ok (.iload_n 2, 1) := by decide +kernel
theorem dX12_mixCourt_11 : decode cX12_mixCourt 11 = .ok (.iconst 3, 1) := by decide +kernel
theorem dX12_mixCourt_12 : decode cX12_mixCourt 12 = .ok (.if_icmp .ge 20, 3) := by decide +kernel
theorem dX12_mixCourt_15 : decode cX12_mixCourt 15 = .ok (.aload_n 0, 1) := by decide +kernel
theorem dX12_mixCourt_16 : decode cX12_mixCourt 16 = .ok (.aload_n 0, 1) := by decide +kernel
theorem dX12_mixCourt_17 : decode cX12_mixCourt 17 = .ok (.iload_n 1, 1) := by decide +kernel
theorem dX12_mixCourt_18 : decode cX12_mixCourt 18 = .ok (.iload_n 2, 1) := by decide +kernel
theorem dX12_mixCourt_19 : decode cX12_mixCourt 19 = .ok (.invokevirtual 180, 3) := by decide +kernel
theorem dX12_mixCourt_22 : decode cX12_mixCourt 22 = .ok (.i2l, 1) := by decide +kernel
theorem dX12_mixCourt_23 : decode cX12_mixCourt 23 = .ok (.invokevirtual 296, 3) := by decide +kernel
theorem dX12_mixCourt_26 : decode cX12_mixCourt 26 = .ok (.iinc 2 1, 3) := by decide +kernel
theorem dX12_mixCourt_29 : decode cX12_mixCourt 29 = .ok (.goto (-19), 3) := by decide +kernel
theorem dX12_mixCourt_32 : decode cX12_mixCourt 32 = .ok (.iinc 1 1, 3) := by decide +kernel
theorem dX12_mixCourt_35 : decode cX12_mixCourt 35 = .ok (.goto (-33), 3) := by decide +kernel
theorem dX12_mixCourt_38 : decode cX12_mixCourt 38 = .ok (.iconst 0, 1) := by decide +kernel
theorem dX12_mixCourt_39 : decode cX12_mixCourt 39 = .ok (.istore_n 1, 1) := by decide +kernel
theorem dX12_mixCourt_40 : decode cX12_mixCourt 40 = .ok (.iload_n 1, 1) := by decide +kernel
theorem dX12_mixCourt_41 : decode cX12_mixCourt 41 = .ok (.bipush 13, 2) := by decide +kernel
theorem dX12_mixCourt_43 : decode cX12_mixCourt 43 = .ok (.if_icmp .ge 24, 3) := by decide +kernel
theorem dX12_mixCourt_46 : decode cX12_mixCourt 46 = .ok (.aload_n 0, 1) := by decide +kernel
theorem dX12_mixCourt_47 : decode cX12_mixCourt 47 = .ok (.aload_n 0, 1) := by decide +kernel
theorem dX12_mixCourt_48 : decode cX12_mixCourt 48 = .ok (.iconst 0, 1) := by decide +kernel
theorem dX12_mixCourt_49 : decode cX12_mixCourt 49 = .ok (.iconst 1, 1) := by decide +kernel
theorem dX12_mixCourt_50 : decode cX12_mixCourt 50 = .ok (.iload_n 1, 1) := by decide +kernel
theorem dX12_mixCourt_51 : decode cX12_mixCourt 51 = .ok (.invokevirtual 186, 3) := by decide +kernel
theorem dX12_mixCourt_54 : decode cX12_mixCourt 54 = .ok (.bipush 100, 2) := by decide +kernel
theorem dX12_mixCourt_56 : decode cX12_mixCourt 56 = .ok (.iadd, 1) := by decide +kernel
theorem dX12_mixCourt_57 : decode cX12_mixCourt 57 = .ok (.i2l, 1) := by decide +kernel
theorem dX12_mixCourt_58 : decode cX12_mixCourt 58 = .ok (.invokevirtual 296, 3) := by decide +kernel
theorem dX12_mixCourt_61 : decode cX12_mixCourt 61 = .ok (.iinc 1 1, 3) := by decide +kernel
theorem dX12_mixCourt_64 : decode cX12_mixCourt 64 = .ok (.goto (-24), 3) := by decide +kernel
theorem dX12_mixCourt_67 : decode cX12_mixCourt 67 = .ok (.aload_n 0, 1) := by decide +kernel
theorem dX12_mixCourt_68 : decode cX12_mixCourt 68 = .ok (.aload_n 0, 1) := by decide +kernel
theorem dX12_mixCourt_69 : decode cX12_mixCourt 69 = .ok (.iconst 0, 1) := by decide +kernel
theorem dX12_mixCourt_70 : decode cX12_mixCourt 70 = .ok (.iconst 1, 1) := by decide +kernel
theorem dX12_mixCourt_71 : decode cX12_mixCourt 71 = .ok (.iconst 2, 1) := by decide +kernel
theorem dX12_mixCourt_72 : decode cX12_mixCourt 72 = .ok (.iconst 0, 1) := by decide +kernel
theorem dX12_mixCourt_73 : decode cX12_mixCourt 73 = .ok (.invokevirtual 208, 3) := by decide +kernel
theorem dX12_mixCourt_76 : decode cX12_mixCourt 76 = .ok (.i2l, 1) := by decide +kernel
theorem dX12_mixCourt_77 : decode cX12_mixCourt 77 = .ok (.invokevirtual 296, 3) := by decide +kernel
theorem dX12_mixCourt_80 : decode cX12_mixCourt 80 = .ok (.aload_n 0, 1) := by decide +kernel
theorem dX12_mixCourt_81 : decode cX12_mixCourt 81 = .ok (.aload_n 0, 1) := by decide +kernel
theorem dX12_mixCourt_82 : decode cX12_mixCourt 82 = .ok (.iconst 0, 1) := by decide +kernel
theorem dX12_mixCourt_83 : decode cX12_mixCourt 83 = .ok (.iconst 1, 1) := by decide +kernel
theorem dX12_mixCourt_84 : decode cX12_mixCourt 84 = .ok (.iconst 2, 1) := by decide +kernel
theorem dX12_mixCourt_85 : decode cX12_mixCourt 85 = .ok (.iconst 1, 1) := by decide +kernel
theorem dX12_mixCourt_86 : decode cX12_mixCourt 86 = .ok (.invokevirtual 208, 3) := by decide +kernel
theorem dX12_mixCourt_89 : decode cX12_mixCourt 89 = .ok (.i2l, 1) := by decide +kernel
theorem dX12_mixCourt_90 : decode cX12_mixCourt 90 = .ok (.invokevirtual 296, 3) := by decide +kernel
theorem dX12_mixCourt_93 : decode cX12_mixCourt 93 = .ok (.aload_n 0, 1) := by decide +kernel
theorem dX12_mixCourt_94 : decode cX12_mixCourt 94 = .ok (.aload_n 0, 1) := by decide +kernel
theorem dX12_mixCourt_95 : decode cX12_mixCourt 95 = .ok (.iconst 0, 1) := by decide +kernel
theorem dX12_mixCourt_96 : decode cX12_mixCourt 96 = .ok (.iconst 1, 1) := by decide +kernel
theorem dX12_mixCourt_97 : decode cX12_mixCourt 97 = .ok (.iconst 4, 1) := by decide +kernel
theorem dX12_mixCourt_98 : decode cX12_mixCourt 98 = .ok (.iconst 3, 1) := by decide +kernel
theorem dX12_mixCourt_99 : decode cX12_mixCourt 99 = .ok (.iconst 0, 1) := by decide +kernel
theorem dX12_mixCourt_100 : decode cX12_mixCourt 100 = .ok (.invokevirtual 236, 3) := by decide +kernel
theorem dX12_mixCourt_103 : decode cX12_mixCourt 103 = .ok (.i2l, 1) := by decide +kernel
theorem dX12_mixCourt_104 : decode cX12_mixCourt 104 = .ok (.invokevirtual 296, 3) := by decide +kernel
theorem dX12_mixCourt_107 : decode cX12_mixCourt 107 = .ok (.aload_n 0, 1) := by decide +kernel
theorem dX12_mixCourt_108 : decode cX12_mixCourt 108 = .ok (.aload_n 0, 1) := by decide +kernel
theorem dX12_mixCourt_109 : decode cX12_mixCourt 109 = .ok (.iconst 0, 1) := by decide +kernel
theorem dX12_mixCourt_110 : decode cX12_mixCourt 110 = .ok (.iconst 1, 1) := by decide +kernel
theorem dX12_mixCourt_111 : decode cX12_mixCourt 111 = .ok (.iconst 4, 1) := by decide +kernel
theorem dX12_mixCourt_112 : decode cX12_mixCourt 112 = .ok (.iconst 3, 1) := by decide +kernel
theorem dX12_mixCourt_113 : decode cX12_mixCourt 113 = .ok (.iconst 1, 1) := by decide +kernel
theorem dX12_mixCourt_114 : decode cX12_mixCourt 114 = .ok (.invokevirtual 236, 3) := by decide +kernel
theorem dX12_mixCourt_117 : decode cX12_mixCourt 117 = .ok (.i2l, 1) := by decide +kernel
theorem dX12_mixCourt_118 : decode cX12_mixCourt 118 = .ok (.invokevirtual 296, 3) := by decide +kernel
theorem dX12_mixCourt_121 : decode cX12_mixCourt 121 = .ok (.aload_n 0, 1) := by decide +kernel
theorem dX12_mixCourt_122 : decode cX12_mixCourt 122 = .ok (.aload_n 0, 1) := by decide +kernel
theorem dX12_mixCourt_123 : decode cX12_mixCourt 123 = .ok (.invokevirtual 230, 3) := by decide +kernel
theorem dX12_mixCourt_126 : decode cX12_mixCourt 126 = .ok (.i2l, 1) := by decide +kernel
theorem dX12_mixCourt_127 : decode cX12_mixCourt 127 = .ok (.invokevirtual 296, 3) := by decide +kernel
theorem dX12_mixCourt_130 : decode cX12_mixCourt 130 = .ok (.iconst 0, 1) := by decide +kernel
theorem dX12_mixCourt_131 : decode cX12_mixCourt 131 = .ok (.istore_n 1, 1) := by decide +kernel
theorem dX12_mixCourt_132 : decode cX12_mixCourt 132 = .ok (.iload_n 1, 1) := by decide +kernel
theorem dX12_mixCourt_133 : decode cX12_mixCourt 133 = .ok (.iconst 5, 1) := by decide +kernel
theorem dX12_mixCourt_134 : decode cX12_mixCourt 134 = .ok (.if_icmp .ge 20, 3) := by decide +kernel
theorem dX12_mixCourt_137 : decode cX12_mixCourt 137 = .ok (.aload_n 0, 1) := by decide +kernel
theorem dX12_mixCourt_138 : decode cX12_mixCourt 138 = .ok (.aload_n 0, 1) := by decide +kernel
theorem dX12_mixCourt_139 : decode cX12_mixCourt 139 = .ok (.getfield 53, 3) := by decide +kernel
theorem dX12_mixCourt_142 : decode cX12_mixCourt 142 = .ok (.iload_n 1, 1) := by decide +kernel
theorem dX12_mixCourt_143 : decode cX12_mixCourt 143 = .ok (.iaload, 1) := by decide +kernel
theorem dX12_mixCourt_144 : decode cX12_mixCourt 144 = .ok (.i2l, 1) := by decide +kernel
theorem dX12_mixCourt_145 : decode cX12_mixCourt 145 = .ok (.invokevirtual 296, 3) := by decide +kernel
theorem dX12_mixCourt_148 : decode cX12_mixCourt 148 = .ok (.iinc 1 1, 3) := by decide +kernel
theorem dX12_mixCourt_151 : decode cX12_mixCourt 151 = .ok (.goto (-19), 3) := by decide +kernel
theorem dX12_mixCourt_154 : decode cX12_mixCourt 154 = .ok (.return_, 1) := by decide +kernel
theorem dX12_digest_0 : decode cX12_digest 0 = .ok (.aload_n 0, 1) := by decide +kernel
theorem dX12_digest_1 : decode cX12_digest 1 = .ok (.ldc2_w 300, 3) := by decide +kernel
theorem dX12_digest_4 : decode cX12_digest 4 = .ok (.putfield 293, 3) := by decide +kernel
theorem dX12_digest_7 : decode cX12_digest 7 = .ok (.iconst 0, 1) := by decide +kernel
theorem dX12_digest_8 : decode cX12_digest 8 = .ok (.istore_n 1, 1) := by decide +kernel
theorem dX12_digest_9 : decode cX12_digest 9 = .ok (.iload_n 1, 1) := by decide +kernel
theorem dX12_digest_10 : decode cX12_digest 10 = .ok (.aload_n 0, 1) := by decide +kernel
theorem dX12_digest_11 : decode cX12_digest 11 = .ok (.getfield 116, 3) := by decide +kernel
theorem dX12_digest_14 : decode cX12_digest 14 = .ok (.if_icmp .ge 57, 3) := by decide +kernel
theorem dX12_digest_17 : decode cX12_digest 17 = .ok (.iconst 0, 1) := by decide +kernel
theorem dX12_digest_18 : decode cX12_digest 18 = .ok (.istore_n 2, 1) := by decide +kernel
theorem dX12_digest_19 : decode cX12_digest 19 = .ok (.iload_n 2, 1) := by decide +kernel
theorem dX12_digest_20 : decode cX12_digest 20 = .ok (.bipush 7, 2) := by decide +kernel
theorem dX12_digest_22 : decode cX12_digest 22 = .ok (.if_icmp .ge 20, 3) := by decide +kernel
theorem dX12_digest_25 : decode cX12_digest 25 = .ok (.aload_n 0, 1) := by decide +kernel
theorem dX12_digest_26 : decode cX12_digest 26 = .ok (.aload_n 0, 1) := by decide +kernel
theorem dX12_digest_27 : decode cX12_digest 27 = .ok (.iload_n 1, 1) := by decide +kernel
theorem dX12_digest_28 : decode cX12_digest 28 = .ok (.iload_n 2, 1) := by decide +kernel
theorem dX12_digest_29 : decode cX12_digest 29 = .ok (.invokevirtual 174, 3) := by decide +kernel
theorem dX12_digest_32 : decode cX12_digest 32 = .ok (.i2l, 1) := by decide +kernel
theorem dX12_digest_33 : decode cX12_digest 33 = .ok (.invokevirtual 296, 3) := by decide +kernel
theorem dX12_digest_36 : decode cX12_digest 36 = .ok (.iinc 2 1, 3) := by decide +kernel
theorem dX12_digest_39 : decode cX12_digest 39 = .ok (.goto (-20), 3) := by decide +kernel
theorem dX12_digest_42 : decode cX12_digest 42 = .ok (.aload_n 0, 1) := by decide +kernel
theorem dX12_digest_43 : decode cX12_digest 43 = .ok (.aload_n 0, 1) := by decide +kernel
theorem dX12_digest_44 : decode cX12_digest 44 = .ok (.iload_n 1, 1) := by decide +kernel
theorem dX12_digest_45 : decode cX12_digest 45 = .ok (.iconst 3, 1) := by decide +kernel
theorem dX12_digest_46 : decode cX12_digest 46 = .ok (.invokevirtual 162, 3) := by decide +kernel
theorem dX12_digest_49 : decode cX12_digest 49 = .ok (.i2l, 1) := by decide +kernel
theorem dX12_digest_50 : decode cX12_digest 50 = .ok (.invokevirtual 296, 3) := by decide +kernel
theorem dX12_digest_53 : decode cX12_digest 53 = .ok (.aload_n 0, 1) := by decide +kernel
theorem dX12_digest_54 : decode cX12_digest 54 = .ok (.aload_n 0, 1) := by decide +kernel
theorem dX12_digest_55 : decode cX12_digest 55 = .ok (.iload_n 1, 1) := by decide +kernel
theorem dX12_digest_56 : decode cX12_digest 56 = .ok (.bipush 10, 2) := by decide +kernel
theorem dX12_digest_58 : decode cX12_digest 58 = .ok (.invokevirtual 162, 3) := by decide +kernel
theorem dX12_digest_61 : decode cX12_digest 61 = .ok (.i2l, 1) := by decide +kernel
theorem dX12_digest_62 : decode cX12_digest 62 = .ok (.invokevirtual 296, 3) := by decide +kernel
theorem dX12_digest_65 : decode cX12_digest 65 = .ok (.iinc 1 1, 3) := by decide +kernel
theorem dX12_digest_68 : decode cX12_digest 68 = .ok (.goto (-59), 3) := by decide +kernel
theorem dX12_digest_71 : decode cX12_digest 71 = .ok (.aload_n 0, 1) := by decide +kernel
theorem dX12_digest_72 : decode cX12_digest 72 = .ok (.getfield 116, 3) := by decide +kernel
theorem dX12_digest_75 : decode cX12_digest 75 = .ok (.ifCond .le 7, 3) := by decide +kernel
theorem dX12_digest_78 : decode cX12_digest 78 = .ok (.aload_n 0, 1) := by decide +kernel
theorem dX12_digest_79 : decode cX12_digest 79 = .ok (.invokevirtual 302, 3) := by decide +kernel
theorem dX12_digest_82 : decode cX12_digest 82 = .ok (.iconst 0, 1) := by decide +kernel
theorem dX12_digest_83 : decode cX12_digest 83 = .ok (.istore_n 1, 1) := by decide +kernel
theorem dX12_digest_84 : decode cX12_digest 84 = .ok (.iload_n 1, 1) := by decide +kernel
theorem dX12_digest_85 : decode cX12_digest 85 = .ok (.aload_n 0, 1) := by decide +kernel
theorem dX12_digest_86 : decode cX12_digest 86 = .ok (.getfield 87, 3) := by decide +kernel
theorem dX12_digest_89 : decode cX12_digest 89 = .ok (.if_icmp .ge 20, 3) := by decide +kernel
theorem dX12_digest_92 : decode cX12_digest 92 = .ok (.aload_n 0, 1) := by decide +kernel
theorem dX12_digest_93 : decode cX12_digest 93 = .ok (.aload_n 0, 1) := by decide +kernel
theorem dX12_digest_94 : decode cX12_digest 94 = .ok (.getfield 40, 3) := by decide +kernel
theorem dX12_digest_97 : decode cX12_digest 97 = .ok (.iload_n 1, 1) := by decide +kernel
theorem dX12_digest_98 : decode cX12_digest 98 = .ok (.baload, 1) := by decide +kernel
theorem dX12_digest_99 : decode cX12_digest 99 = .ok (.i2l, 1) := by decide +kernel
theorem dX12_digest_100 : decode cX12_digest 100 = .ok (.invokevirtual 296, 3) := by decide +kernel
theorem dX12_digest_103 : decode cX12_digest 103 = .ok (.iinc 1 1, 3) := by decide +kernel
theorem dX12_digest_106 : decode cX12_digest 106 = .ok (.goto (-22), 3) := by decide +kernel
theorem dX12_digest_109 : decode cX12_digest 109 = .ok (.iconst 0, 1) := by decide +kernel
theorem dX12_digest_110 : decode cX12_digest 110 = .ok (.istore_n 1, 1) := by decide +kernel
theorem dX12_digest_111 : decode cX12_digest 111 = .ok (.iload_n 1, 1) := by decide +kernel
theorem dX12_digest_112 : decode cX12_digest 112 = .ok (.bipush 11, 2) := by decide +kernel
theorem dX12_digest_114 : decode cX12_digest 114 = .ok (.if_icmp .ge 19, 3) := by decide +kernel
theorem dX12_digest_117 : decode cX12_digest 117 = .ok (.aload_n 0, 1) := by decide +kernel
theorem dX12_digest_118 : decode cX12_digest 118 = .ok (.aload_n 0, 1) := by decide +kernel
theorem dX12_digest_119 : decode cX12_digest 119 = .ok (.iload_n 1, 1) := by decide +kernel
theorem dX12_digest_120 : decode cX12_digest 120 = .ok (.invokevirtual 288, 3) := by decide +kernel
theorem dX12_digest_123 : decode cX12_digest 123 = .ok (.i2l, 1) := by decide +kernel
theorem dX12_digest_124 : decode cX12_digest 124 = .ok (.invokevirtual 296, 3) := by decide +kernel
theorem dX12_digest_127 : decode cX12_digest 127 = .ok (.iinc 1 1, 3) := by decide +kernel
theorem dX12_digest_130 : decode cX12_digest 130 = .ok (.goto (-19), 3) := by decide +kernel
theorem dX12_digest_133 : decode cX12_digest 133 = .ok (.aload_n 0, 1) := by decide +kernel
theorem dX12_digest_134 : decode cX12_digest 134 = .ok (.getfield 293, 3) := by decide +kernel
theorem dX12_digest_137 : decode cX12_digest 137 = .ok (.lreturn, 1) := by decide +kernel
theorem dJ6_bitCount_0f7a4_0 : decode cJ6_bitCount_0f7a4 0 = .ok (.iload_n 0, 1) := by decide +kernel
theorem dJ6_bitCount_0f7a4_1 : decode cJ6_bitCount_0f7a4 1 = .ok (.iload_n 0, 1) := by decide +kernel
theorem dJ6_bitCount_0f7a4_2 : decode cJ6_bitCount_0f7a4 2 = .ok (.iconst 1, 1) := by decide +kernel
theorem dJ6_bitCount_0f7a4_3 : decode cJ6_bitCount_0f7a4 3 = .ok (.iushr, 1) := by decide +kernel
theorem dJ6_bitCount_0f7a4_4 : decode cJ6_bitCount_0f7a4 4 = .ok (.ldc_w 265, 3) := by decide +kernel
theorem dJ6_bitCount_0f7a4_7 : decode cJ6_bitCount_0f7a4 7 = .ok (.iand, 1) := by decide +kernel
theorem dJ6_bitCount_0f7a4_8 : decode cJ6_bitCount_0f7a4 8 = .ok (.isub, 1) := by decide +kernel
theorem dJ6_bitCount_0f7a4_9 : decode cJ6_bitCount_0f7a4 9 = .ok (.istore_n 0, 1) := by decide +kernel
theorem dJ6_bitCount_0f7a4_10 : decode cJ6_bitCount_0f7a4 10 = .ok (.iload_n 0, 1) := by decide +kernel
theorem dJ6_bitCount_0f7a4_11 : decode cJ6_bitCount_0f7a4 11 = .ok (.ldc_w 266, 3) := by decide +kernel
theorem dJ6_bitCount_0f7a4_14 : decode cJ6_bitCount_0f7a4 14 = .ok (.iand, 1) := by decide +kernel
theorem dJ6_bitCount_0f7a4_15 : decode cJ6_bitCount_0f7a4 15 = .ok (.iload_n 0, 1) := by decide +kernel
theorem dJ6_bitCount_0f7a4_16 : decode cJ6_bitCount_0f7a4 16 = .ok (.iconst 2, 1) := by decide +kernel
theorem dJ6_bitCount_0f7a4_17 : decode cJ6_bitCount_0f7a4 17 = .ok (.iushr, 1) := by decide +kernel
theorem dJ6_bitCount_0f7a4_18 : decode cJ6_bitCount_0f7a4 18 = .ok (.ldc_w 266, 3) := by decide +kernel
theorem dJ6_bitCount_0f7a4_21 : decode cJ6_bitCount_0f7a4 21 = .ok (.iand, 1) := by decide +kernel
theorem dJ6_bitCount_0f7a4_22 : decode cJ6_bitCount_0f7a4 22 = .ok (.iadd, 1) := by decide +kernel
theorem dJ6_bitCount_0f7a4_23 : decode cJ6_bitCount_0f7a4 23 = .ok (.istore_n 0, 1) := by decide +kernel
theorem dJ6_bitCount_0f7a4_24 : decode cJ6_bitCount_0f7a4 24 = .ok (.iload_n 0, 1) := by decide +kernel
theorem dJ6_bitCount_0f7a4_25 : decode cJ6_bitCount_0f7a4 25 = .ok (.iload_n 0, 1) := by decide +kernel
theorem dJ6_bitCount_0f7a4_26 : decode cJ6_bitCount_0f7a4 26 = .ok (.iconst 4, 1) := by decide +kernel
theorem dJ6_bitCount_0f7a4_27 : decode cJ6_bitCount_0f7a4 27 = .ok (.iushr, 1) := by decide +kernel
theorem dJ6_bitCount_0f7a4_28 : decode cJ6_bitCount_0f7a4 28 = .ok (.iadd, 1) := by decide +kernel
theorem dJ6_bitCount_0f7a4_29 : decode cJ6_bitCount_0f7a4 29 = .ok (.ldc_w 267, 3) := by decide +kernel
theorem dJ6_bitCount_0f7a4_32 : decode cJ6_bitCount_0f7a4 32 = .ok (.iand, 1) := by decide +kernel
theorem dJ6_bitCount_0f7a4_33 : decode cJ6_bitCount_0f7a4 33 = .ok (.istore_n 0, 1) := by decide +kernel
theorem dJ6_bitCount_0f7a4_34 : decode cJ6_bitCount_0f7a4 34 = .ok (.iload_n 0, 1) := by decide +kernel
theorem dJ6_bitCount_0f7a4_35 : decode cJ6_bitCount_0f7a4 35 = .ok (.iload_n 0, 1) := by decide +kernel
theorem dJ6_bitCount_0f7a4_36 : decode cJ6_bitCount_0f7a4 36 = .ok (.bipush 8, 2) := by decide +kernel
theorem dJ6_bitCount_0f7a4_38 : decode cJ6_bitCount_0f7a4 38 = .ok (.iushr, 1) := by decide +kernel
theorem dJ6_bitCount_0f7a4_39 : decode cJ6_bitCount_0f7a4 39 = .ok (.iadd, 1) := by decide +kernel
theorem dJ6_bitCount_0f7a4_40 : decode cJ6_bitCount_0f7a4 40 = .ok (.istore_n 0, 1) := by decide +kernel
theorem dJ6_bitCount_0f7a4_41 : decode cJ6_bitCount_0f7a4 41 = .ok (.iload_n 0, 1) := by decide +kernel
theorem dJ6_bitCount_0f7a4_42 : decode cJ6_bitCount_0f7a4 42 = .ok (.iload_n 0, 1) := by decide +kernel
theorem dJ6_bitCount_0f7a4_43 : decode cJ6_bitCount_0f7a4 43 = .ok (.bipush 16, 2) := by decide +kernel
theorem dJ6_bitCount_0f7a4_45 : decode cJ6_bitCount_0f7a4 45 = .ok (.iushr, 1) := by decide +kernel
theorem dJ6_bitCount_0f7a4_46 : decode cJ6_bitCount_0f7a4 46 = .ok (.iadd, 1) := by decide +kernel
theorem dJ6_bitCount_0f7a4_47 : decode cJ6_bitCount_0f7a4 47 = .ok (.istore_n 0, 1) := by decide +kernel
theorem dJ6_bitCount_0f7a4_48 : decode cJ6_bitCount_0f7a4 48 = .ok (.iload_n 0, 1) := by decide +kernel
theorem dJ6_bitCount_0f7a4_49 : decode cJ6_bitCount_0f7a4 49 = .ok (.bipush 63, 2) := by decide +kernel
theorem dJ6_bitCount_0f7a4_51 : decode cJ6_bitCount_0f7a4 51 = .ok (.iand, 1) := by decide +kernel
theorem dJ6_bitCount_0f7a4_52 : decode cJ6_bitCount_0f7a4 52 = .ok (.ireturn, 1) := by decide +kernel
theorem dJ0_length_8abf5_0 : decode cJ0_length_8abf5 0 = .ok (.aload_n 0, 1) := by decide +kernel
theorem dJ0_length_8abf5_1 : decode cJ0_length_8abf5 1 = .ok (.getfield 9, 3) := by decide +kernel
theorem dJ0_length_8abf5_4 : decode cJ0_length_8abf5 4 = .ok (.arraylength, 1) := by decide +kernel
theorem dJ0_length_8abf5_5 : decode cJ0_length_8abf5 5 = .ok (.aload_n 0, 1) := by decide +kernel
theorem dJ0_length_8abf5_6 : decode cJ0_length_8abf5 6 = .ok (.invokevirtual 335, 3) := by decide +kernel
theorem dJ0_length_8abf5_9 : decode cJ0_length_8abf5 9 = .ok (.ishr, 1) := by decide +kernel
theorem dJ0_length_8abf5_10 : decode cJ0_length_8abf5 10 = .ok (.ireturn, 1) := by decide +kernel
theorem dJ0_indexOf_0f7a4_0 : decode cJ0_indexOf_0f7a4 0 = .ok (.aload_n 0, 1) := by decide +kernel
theorem dJ0_indexOf_0f7a4_1 : decode cJ0_indexOf_0f7a4 1 = .ok (.iload_n 1, 1) := by decide +kernel
theorem dJ0_indexOf_0f7a4_2 : decode cJ0_indexOf_0f7a4 2 = .ok (.iconst 0, 1) := by decide +kernel
theorem dJ0_indexOf_0f7a4_3 : decode cJ0_indexOf_0f7a4 3 = .ok (.invokevirtual 633, 3) := by decide +kernel
theorem dJ0_indexOf_0f7a4_6 : decode cJ0_indexOf_0f7a4 6 = .ok (.ireturn, 1) := by decide +kernel
theorem dJ0_indexOf_7cf53_0 : decode cJ0_indexOf_7cf53 0 = .ok (.aload_n 0, 1) := by decide +kernel
theorem dJ0_indexOf_7cf53_1 : decode cJ0_indexOf_7cf53 1 = .ok (.invokevirtual 492, 3) := by decide +kernel
theorem dJ0_indexOf_7cf53_4 : decode cJ0_indexOf_7cf53 4 = .ok (.ifCond .eq 19, 3) := by decide +kernel
theorem dJ0_indexOf_7cf53_7 : decode cJ0_indexOf_7cf53 7 = .ok (.aload_n 0, 1) := by decide +kernel
theorem dJ0_indexOf_7cf53_8 : decode cJ0_indexOf_7cf53 8 = .ok (.getfield 9, 3) := by decide +kernel
theorem dJ0_indexOf_7cf53_11 : decode cJ0_indexOf_7cf53 11 = .ok (.iload_n 1, 1) := by decide +kernel
theorem dJ0_indexOf_7cf53_12 : decode cJ0_indexOf_7cf53 12 = .ok (.iload_n 2, 1) := by decide +kernel
theorem dJ0_indexOf_7cf53_13 : decode cJ0_indexOf_7cf53 13 = .ok (.aload_n 0, 1) := by decide +kernel
theorem dJ0_indexOf_7cf53_14 : decode cJ0_indexOf_7cf53 14 = .ok (.invokevirtual 505, 3) := by decide +kernel
theorem dJ0_indexOf_7cf53_17 : decode cJ0_indexOf_7cf53 17 = .ok (.invokestatic 637, 3) := by decide +kernel
theorem dJ0_indexOf_7cf53_20 : decode cJ0_indexOf_7cf53 20 = .ok (.goto 16, 3) := by decide +kernel
theorem dJ0_indexOf_7cf53_36 : decode cJ0_indexOf_7cf53 36 = .ok (.ireturn, 1) := by decide +kernel
theorem dJ0_coder_7d493_0 : decode cJ0_coder_7d493 0 = .ok (.getstatic 38, 3) := by decide +kernel
theorem dJ0_coder_7d493_3 : decode cJ0_coder_7d493 3 = .ok (.ifCond .eq 10, 3) := by decide +kernel
theorem dJ0_coder_7d493_6 : decode cJ0_coder_7d493 6 = .ok (.aload_n 0, 1) := by decide +kernel
theorem dJ0_coder_7d493_7 : decode cJ0_coder_7d493 7 = .ok (.getfield 15, 3) := by decide +kernel
theorem dJ0_coder_7d493_10 : decode cJ0_coder_7d493 10 = .ok (.goto 4, 3) := by decide +kernel
theorem dJ0_coder_7d493_13 : decode cJ0_coder_7d493 13 = .ok (.iconst 1, 1) := by decide +kernel
theorem dJ0_coder_7d493_14 : decode cJ0_coder_7d493 14 = .ok (.ireturn, 1) := by decide +kernel
theorem dJ0_isLatin1_aae02_0 : decode cJ0_isLatin1_aae02 0 = .ok (.getstatic 38, 3) := by decide +kernel
theorem dJ0_isLatin1_aae02_3 : decode cJ0_isLatin1_aae02 3 = .ok (.ifCond .eq 14, 3) := by decide +kernel
theorem dJ0_isLatin1_aae02_6 : decode cJ0_isLatin1_aae02 6 = .ok (.aload_n 0, 1) := by decide +kernel
theorem dJ0_isLatin1_aae02_7 : decode cJ0_isLatin1_aae02 7 = .ok (.getfield 15, 3) := by decide +kernel
theorem dJ0_isLatin1_aae02_10 : decode cJ0_isLatin1_aae02 10 = .ok (.ifCond .ne 7, 3) := by decide +kernel
theorem dJ0_isLatin1_aae02_13 : decode cJ0_isLatin1_aae02 13 = .ok (.iconst 1, 1) := by decide +kernel
theorem dJ0_isLatin1_aae02_14 : decode cJ0_isLatin1_aae02 14 = .ok (.goto 4, 3) := by decide +kernel
theorem dJ0_isLatin1_aae02_17 : decode cJ0_isLatin1_aae02 17 = .ok (.iconst 0, 1) := by decide +kernel
theorem dJ0_isLatin1_aae02_18 : decode cJ0_isLatin1_aae02 18 = .ok (.ireturn, 1) := by decide +kernel
theorem dJ1_canEncode_9a6ad_0 : decode cJ1_canEncode_9a6ad 0 = .ok (.iload_n 0, 1) := by decide +kernel
theorem dJ1_canEncode_9a6ad_1 : decode cJ1_canEncode_9a6ad 1 = .ok (.ifCond .lt 14, 3) := by decide +kernel
theorem dJ1_canEncode_9a6ad_4 : decode cJ1_canEncode_9a6ad 4 = .ok (.iload_n 0, 1) := by decide +kernel
theorem dJ1_canEncode_9a6ad_5 : decode cJ1_canEncode_9a6ad 5 = .ok (.sipush 255, 3) := by decide +kernel
theorem dJ1_canEncode_9a6ad_8 : decode cJ1_canEncode_9a6ad 8 = .ok (.if_icmp .gt 7, 3) := by decide +kernel
theorem dJ1_canEncode_9a6ad_11 : decode cJ1_canEncode_9a6ad 11 = .ok (.iconst 1, 1) := by decide +kernel
theorem dJ1_canEncode_9a6ad_12 : decode cJ1_canEncode_9a6ad 12 = .ok (.goto 4, 3) := by decide +kernel
theorem dJ1_canEncode_9a6ad_15 : decode cJ1_canEncode_9a6ad 15 = .ok (.iconst 0, 1) := by decide +kernel
theorem dJ1_canEncode_9a6ad_16 : decode cJ1_canEncode_9a6ad 16 = .ok (.ireturn, 1) := by decide +kernel
theorem dJ1_indexOf_4cfef_0 : decode cJ1_indexOf_4cfef 0 = .ok (.iload_n 1, 1) := by decide +kernel
theorem dJ1_indexOf_4cfef_1 : decode cJ1_indexOf_4cfef 1 = .ok (.invokestatic 88, 3) := by decide +kernel
theorem dJ1_indexOf_4cfef_4 : decode cJ1_indexOf_4cfef 4 = .ok (.ifCond .ne 5, 3) := by decide +kernel
theorem dJ1_indexOf_4cfef_7 : decode cJ1_indexOf_4cfef 7 = .ok (.iconst (-1), 1) := by decide +kernel
theorem dJ1_indexOf_4cfef_8 : decode cJ1_indexOf_4cfef 8 = .ok (.ireturn, 1) := by decide +kernel
theorem dJ1_indexOf_4cfef_9 : decode cJ1_indexOf_4cfef 9 = .ok (.iload_n 2, 1) := by decide +kernel
theorem dJ1_indexOf_4cfef_10 : decode cJ1_indexOf_4cfef 10 = .ok (.iconst 0, 1) := by decide +kernel
theorem dJ1_indexOf_4cfef_11 : decode cJ1_indexOf_4cfef 11 = .ok (.invokestatic 92, 3) := by decide +kernel
theorem dJ1_indexOf_4cfef_14 : decode cJ1_indexOf_4cfef 14 = .ok (.istore_n 2, 1) := by decide +kernel
theorem dJ1_indexOf_4cfef_15 : decode cJ1_indexOf_4cfef 15 = .ok (.iload_n 3, 1) := by decide +kernel
theorem dJ1_indexOf_4cfef_16 : decode cJ1_indexOf_4cfef 16 = .ok (.aload_n 0, 1) := by decide +kernel
theorem dJ1_indexOf_4cfef_17 : decode cJ1_indexOf_4cfef 17 = .ok (.arraylength, 1) := by decide +kernel
theorem dJ1_indexOf_4cfef_18 : decode cJ1_indexOf_4cfef 18 = .ok (.invokestatic 38, 3) := by decide +kernel
theorem dJ1_indexOf_4cfef_21 : decode cJ1_indexOf_4cfef 21 = .ok (.istore_n 3, 1) := by decide +kernel
theorem dJ1_indexOf_4cfef_22 : decode cJ1_indexOf_4cfef 22 = .ok (.iload_n 2, 1) := by decide +kernel
theorem dJ1_indexOf_4cfef_23 : decode cJ1_indexOf_4cfef 23 = .ok (.iload_n 3, 1) := by decide +kernel
theorem dJ1_indexOf_4cfef_24 : decode cJ1_indexOf_4cfef 24 = .ok (.if_icmp .lt 5, 3) := by decide +kernel
theorem dJ1_indexOf_4cfef_27 : decode cJ1_indexOf_4cfef 27 = .ok (.iconst (-1), 1) := by decide +kernel
theorem dJ1_indexOf_4cfef_28 : decode cJ1_indexOf_4cfef 28 = .ok (.ireturn, 1) := by decide +kernel
theorem dJ1_indexOf_4cfef_29 : decode cJ1_indexOf_4cfef 29 = .ok (.aload_n 0, 1) := by decide +kernel
theorem dJ1_indexOf_4cfef_30 : decode cJ1_indexOf_4cfef 30 = .ok (.iload_n 1, 1) := by decide +kernel
theorem dJ1_indexOf_4cfef_31 : decode cJ1_indexOf_4cfef 31 = .ok (.iload_n 2, 1) := by decide +kernel
theorem dJ1_indexOf_4cfef_32 : decode cJ1_indexOf_4cfef 32 = .ok (.iload_n 3, 1) := by decide +kernel
theorem dJ1_indexOf_4cfef_33 : decode cJ1_indexOf_4cfef 33 = .ok (.invokestatic 95, 3) := by decide +kernel
theorem dJ1_indexOf_4cfef_36 : decode cJ1_indexOf_4cfef 36 = .ok (.ireturn, 1) := by decide +kernel
theorem dJ1_indexOfChar_4cfef_0 : decode cJ1_indexOfChar_4cfef 0 = .ok (.iload_n 1, 1) := by decide +kernel
theorem dJ1_indexOfChar_4cfef_1 : decode cJ1_indexOfChar_4cfef 1 = .ok (.i2b, 1) := by decide +kernel
theorem dJ1_indexOfChar_4cfef_2 : decode cJ1_indexOfChar_4cfef 2 = .ok (.istore 4, 2) := by decide +kernel
theorem dJ1_indexOfChar_4cfef_4 : decode cJ1_indexOfChar_4cfef 4 = .ok (.iload_n 2, 1) := by decide +kernel
theorem dJ1_indexOfChar_4cfef_5 : decode cJ1_indexOfChar_4cfef 5 = .ok (.istore 5, 2) := by decide +kernel
theorem dJ1_indexOfChar_4cfef_7 : decode cJ1_indexOfChar_4cfef 7 = .ok (.iload 5, 2) := by decide +kernel
theorem dJ1_indexOfChar_4cfef_9 : decode cJ1_indexOfChar_4cfef 9 = .ok (.iload_n 3, 1) := by decide +kernel
theorem dJ1_indexOfChar_4cfef_10 : decode cJ1_indexOfChar_4cfef 10 = .ok (.if_icmp .ge 21, 3) := by decide +kernel
theorem dJ1_indexOfChar_4cfef_13 : decode cJ1_indexOfChar_4cfef 13 = .ok (.aload_n 0, 1) := by decide +kernel
theorem dJ1_indexOfChar_4cfef_14 : decode cJ1_indexOfChar_4cfef 14 = .ok (.iload 5, 2) := by decide +kernel
theorem dJ1_indexOfChar_4cfef_16 : decode cJ1_indexOfChar_4cfef 16 = .ok (.baload, 1) := by decide +kernel
theorem dJ1_indexOfChar_4cfef_17 : decode cJ1_indexOfChar_4cfef 17 = .ok (.iload 4, 2) := by decide +kernel
theorem dJ1_indexOfChar_4cfef_19 : decode cJ1_indexOfChar_4cfef 19 = .ok (.if_icmp .ne 6, 3) := by decide +kernel
theorem dJ1_indexOfChar_4cfef_22 : decode cJ1_indexOfChar_4cfef 22 = .ok (.iload 5, 2) := by decide +kernel
theorem dJ1_indexOfChar_4cfef_24 : decode cJ1_indexOfChar_4cfef 24 = .ok (.ireturn, 1) := by decide +kernel
theorem dJ1_indexOfChar_4cfef_25 : decode cJ1_indexOfChar_4cfef 25 = .ok (.iinc 5 1, 3) := by decide +kernel
theorem dJ1_indexOfChar_4cfef_28 : decode cJ1_indexOfChar_4cfef 28 = .ok (.goto (-21), 3) := by decide +kernel
theorem dJ1_indexOfChar_4cfef_31 : decode cJ1_indexOfChar_4cfef 31 = .ok (.iconst (-1), 1) := by decide +kernel
theorem dJ1_indexOfChar_4cfef_32 : decode cJ1_indexOfChar_4cfef 32 = .ok (.ireturn, 1) := by decide +kernel
