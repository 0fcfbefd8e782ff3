theorem dX0_init_0 : decode cX0_init 0 = .ok (.aload_n 0, 1) := by decide +kernel
theorem dX0_init_1 : decode cX0_init 1 = .ok (.iconst 3, 1) := by decide +kernel
theorem dX0_init_2 : decode cX0_init 2 = .ok (.iconst 0, 1) := by decide +kernel
theorem dX0_init_3 : decode cX0_init 3 = .ok (.invokespecial 3, 3) := by decide +kernel
theorem dX0_init_6 : decode cX0_init 6 = .ok (.return_, 1) := by decide +kernel
theorem dX0_shade_0 : decode cX0_shade 0 = .ok (.aload_n 0, 1) := by decide +kernel
theorem dX0_shade_1 : decode cX0_shade 1 = .ok (.iload_n 1, 1) := by decide +kernel
theorem dX0_shade_2 : decode cX0_shade 2 = .ok (.iload_n 3, 1) := by decide +kernel
theorem dX0_shade_3 : decode cX0_shade 3 = .ok (.invokevirtual 9, 3) := by decide +kernel
theorem dX0_shade_6 : decode cX0_shade 6 = .ok (.istore 4, 2) := by decide +kernel
theorem dX0_shade_8 : decode cX0_shade 8 = .ok (.iload_n 2, 1) := by decide +kernel
theorem dX0_shade_9 : decode cX0_shade 9 = .ok (.iload 4, 2) := by decide +kernel
theorem dX0_shade_11 : decode cX0_shade 11 = .ok (.invokestatic 15, 3) := by decide +kernel
theorem dX0_shade_14 : decode cX0_shade 14 = .ok (.iload_n 2, 1) := by decide +kernel
theorem dX0_shade_15 : decode cX0_shade 15 = .ok (.iload 4, 2) := by decide +kernel
theorem dX0_shade_17 : decode cX0_shade 17 = .ok (.invokestatic 18, 3) := by decide +kernel
theorem dX0_shade_20 : decode cX0_shade 20 = .ok (.ior, 1) := by decide +kernel
theorem dX0_shade_21 : decode cX0_shade 21 = .ok (.ireturn, 1) := by decide +kernel
theorem dX1_init_0 : decode cX1_init 0 = .ok (.aload_n 0, 1) := by decide +kernel
theorem dX1_init_1 : decode cX1_init 1 = .ok (.invokespecial 3, 3) := by decide +kernel
theorem dX1_init_4 : decode cX1_init 4 = .ok (.aload_n 0, 1) := by decide +kernel
theorem dX1_init_5 : decode cX1_init 5 = .ok (.iconst 5, 1) := by decide +kernel
theorem dX1_init_6 : decode cX1_init 6 = .ok (.anewarray 9, 3) := by decide +kernel
theorem dX1_init_9 : decode cX1_init 9 = .ok (.putfield 11, 3) := by decide +kernel
theorem dX1_init_12 : decode cX1_init 12 = .ok (.aload_n 0, 1) := by decide +kernel
theorem dX1_init_13 : decode cX1_init 13 = .ok (.iconst 5, 1) := by decide +kernel
theorem dX1_init_14 : decode cX1_init 14 = .ok (.newarray .int, 2) := by decide +kernel
theorem dX1_init_16 : decode cX1_init 16 = .ok (.putfield 17, 3) := by decide +kernel
theorem dX1_init_19 : decode cX1_init 19 = .ok (.aload_n 0, 1) := by decide +kernel
theorem dX1_init_20 : decode cX1_init 20 = .ok (.iconst 5, 1) := by decide +kernel
theorem dX1_init_21 : decode cX1_init 21 = .ok (.newarray .int, 2) := by decide +kernel
theorem dX1_init_23 : decode cX1_init 23 = .ok (.putfield 21, 3) := by decide +kernel
theorem dX1_init_26 : decode cX1_init 26 = .ok (.aload_n 0, 1) := by decide +kernel
theorem dX1_init_27 : decode cX1_init 27 = .ok (.bipush 10, 2) := by decide +kernel
theorem dX1_init_29 : decode cX1_init 29 = .ok (.newarray .int, 2) := by decide +kernel
theorem dX1_init_31 : decode cX1_init 31 = .ok (.putfield 24, 3) := by decide +kernel
theorem dX1_init_34 : decode cX1_init 34 = .ok (.aload_n 0, 1) := by decide +kernel
theorem dX1_init_35 : decode cX1_init 35 = .ok (.iconst 5, 1) := by decide +kernel
theorem dX1_init_36 : decode cX1_init 36 = .ok (.newarray .int, 2) := by decide +kernel
theorem dX1_init_38 : decode cX1_init 38 = .ok (.putfield 27, 3) := by decide +kernel
theorem dX1_init_41 : decode cX1_init 41 = .ok (.aload_n 0, 1) := by decide +kernel
theorem dX1_init_42 : decode cX1_init 42 = .ok (.iconst 5, 1) := by decide +kernel
theorem dX1_init_43 : decode cX1_init 43 = .ok (.newarray .int, 2) := by decide +kernel
theorem dX1_init_45 : decode cX1_init 45 = .ok (.putfield 30, 3) := by decide +kernel
theorem dX1_init_48 : decode cX1_init 48 = .ok (.aload_n 0, 1) := by decide +kernel
theorem dX1_init_49 : decode cX1_init 49 = .ok (.bipush 8, 2) := by decide +kernel
theorem dX1_init_51 : decode cX1_init 51 = .ok (.newarray .int, 2) := by decide +kernel
theorem dX1_init_53 : decode cX1_init 53 = .ok (.putfield 33, 3) := by decide +kernel
theorem dX1_init_56 : decode cX1_init 56 = .ok (.aload_n 0, 1) := by decide +kernel
theorem dX1_init_57 : decode cX1_init 57 = .ok (.bipush 8, 2) := by decide +kernel
theorem dX1_init_59 : decode cX1_init 59 = .ok (.newarray .int, 2) := by decide +kernel
theorem dX1_init_61 : decode cX1_init 61 = .ok (.putfield 36, 3) := by decide +kernel
theorem dX1_init_64 : decode cX1_init 64 = .ok (.aload_n 0, 1) := by decide +kernel
theorem dX1_init_65 : decode cX1_init 65 = .ok (.bipush 8, 2) := by decide +kernel
theorem dX1_init_67 : decode cX1_init 67 = .ok (.newarray .int, 2) := by decide +kernel
theorem dX1_init_69 : decode cX1_init 69 = .ok (.putfield 39, 3) := by decide +kernel
theorem dX1_init_72 : decode cX1_init 72 = .ok (.aload_n 0, 1) := by decide +kernel
theorem dX1_init_73 : decode cX1_init 73 = .ok (.bipush 8, 2) := by decide +kernel
theorem dX1_init_75 : decode cX1_init 75 = .ok (.newarray .int, 2) := by decide +kernel
theorem dX1_init_77 : decode cX1_init 77 = .ok (.putfield 42, 3) := by decide +kernel
theorem dX1_init_80 : decode cX1_init 80 = .ok (.return_, 1) := by decide +kernel
theorem dX1_read_0 : decode cX1_read 0 = .ok (.iconst 0, 1) := by decide +kernel
theorem dX1_read_1 : decode cX1_read 1 = .ok (.istore_n 2, 1) := by decide +kernel
theorem dX1_read_2 : decode cX1_read 2 = .ok (.iload_n 2, 1) := by decide +kernel
theorem dX1_read_3 : decode cX1_read 3 = .ok (.bipush 10, 2) := by decide +kernel
theorem dX1_read_5 : decode cX1_read 5 = .ok (.if_icmp .ge 24, 3) := by decide +kernel
theorem dX1_read_8 : decode cX1_read 8 = .ok (.aload_n 0, 1) := by decide +kernel
theorem dX1_read_9 : decode cX1_read 9 = .ok (.getfield 24, 3) := by decide +kernel
theorem dX1_read_12 : decode cX1_read 12 = .ok (.iload_n 2, 1) := by decide +kernel
theorem dX1_read_13 : decode cX1_read 13 = .ok (.aload_n 1, 1) := by decide +kernel
theorem dX1_read_14 : decode cX1_read 14 = .ok (.getfield 45, 3) := by decide +kernel
theorem dX1_read_17 : decode cX1_read 17 = .ok (.iload_n 2, 1) := by decide +kernel
theorem dX1_read_18 : decode cX1_read 18 = .ok (.caload, 1) := by decide +kernel
theorem dX1_read_19 : decode cX1_read 19 = .ok (.bipush 48, 2) := by decide +kernel
theorem dX1_read_21 : decode cX1_read 21 = .ok (.isub, 1) := by decide +kernel
theorem dX1_read_22 : decode cX1_read 22 = .ok (.iastore, 1) := by decide +kernel
theorem dX1_read_23 : decode cX1_read 23 = .ok (.iinc 2 1, 3) := by decide +kernel
theorem dX1_read_26 : decode cX1_read 26 = .ok (.goto (-24), 3) := by decide +kernel
theorem dX1_read_29 : decode cX1_read 29 = .ok (.aload_n 0, 1) := by decide +kernel
theorem dX1_read_30 : decode cX1_read 30 = .ok (.aload_n 1, 1) := by decide +kernel
theorem dX1_read_31 : decode cX1_read 31 = .ok (.invokevirtual 51, 3) := by decide +kernel
theorem dX1_read_34 : decode cX1_read 34 = .ok (.iconst 5, 1) := by decide +kernel
theorem dX1_read_35 : decode cX1_read 35 = .ok (.invokestatic 55, 3) := by decide +kernel
theorem dX1_read_38 : decode cX1_read 38 = .ok (.putfield 61, 3) := by decide +kernel
theorem dX1_read_41 : decode cX1_read 41 = .ok (.iconst 0, 1) := by decide +kernel
theorem dX1_read_42 : decode cX1_read 42 = .ok (.istore_n 2, 1) := by decide +kernel
theorem dX1_read_43 : decode cX1_read 43 = .ok (.iload_n 2, 1) := by decide +kernel
theorem dX1_read_44 : decode cX1_read 44 = .ok (.aload_n 0, 1) := by decide +kernel
theorem dX1_read_45 : decode cX1_read 45 = .ok (.getfield 61, 3) := by decide +kernel
theorem dX1_read_48 : decode cX1_read 48 = .ok (.if_icmp .ge 44, 3) := by decide +kernel
theorem dX1_read_51 : decode cX1_read 51 = .ok (.aload_n 0, 1) := by decide +kernel
theorem dX1_read_52 : decode cX1_read 52 = .ok (.getfield 11, 3) := by decide +kernel
theorem dX1_read_55 : decode cX1_read 55 = .ok (.iload_n 2, 1) := by decide +kernel
theorem dX1_read_56 : decode cX1_read 56 = .ok (.aload_n 1, 1) := by decide +kernel
theorem dX1_read_57 : decode cX1_read 57 = .ok (.iload_n 2, 1) := by decide +kernel
theorem dX1_read_58 : decode cX1_read 58 = .ok (.invokevirtual 64, 3) := by decide +kernel
theorem dX1_read_61 : decode cX1_read 61 = .ok (.aastore, 1) := by decide +kernel
theorem dX1_read_62 : decode cX1_read 62 = .ok (.aload_n 0, 1) := by decide +kernel
theorem dX1_read_63 : decode cX1_read 63 = .ok (.getfield 17, 3) := by decide +kernel
theorem dX1_read_66 : decode cX1_read 66 = .ok (.iload_n 2, 1) := by decide +kernel
theorem dX1_read_67 : decode cX1_read 67 = .ok (.aload_n 1, 1) := by decide +kernel
theorem dX1_read_68 : decode cX1_read 68 = .ok (.iload_n 2, 1) := by decide +kernel
theorem dX1_read_69 : decode cX1_read 69 = .ok (.iconst 1, 1) := by decide +kernel
theorem dX1_read_70 : decode cX1_read 70 = .ok (.invokevirtual 68, 3) := by decide +kernel
theorem dX1_read_73 : decode cX1_read 73 = .ok (.iastore, 1) := by decide +kernel
theorem dX1_read_74 : decode cX1_read 74 = .ok (.aload_n 0, 1) := by decide +kernel
theorem dX1_read_75 : decode cX1_read 75 = .ok (.getfield 21, 3) := by decide +kernel
theorem dX1_read_78 : decode cX1_read 78 = .ok (.iload_n 2, 1) := by decide +kernel
theorem dX1_read_79 : decode cX1_read 79 = .ok (.aload_n 1, 1) := by decide +kernel
theorem dX1_read_80 : decode cX1_read 80 = .ok (.iload_n 2, 1) := by decide +kernel
theorem dX1_read_81 : decode cX1_read 81 = .ok (.iconst 2, 1) := by decide +kernel
theorem dX1_read_82 : decode cX1_read 82 = .ok (.invokevirtual 68, 3) := by decide +kernel
theorem dX1_read_85 : decode cX1_read 85 = .ok (.iastore, 1) := by decide +kernel
theorem dX1_read_86 : decode cX1_read 86 = .ok (.iinc 2 1, 3) := by decide +kernel
theorem dX1_read_89 : decode cX1_read 89 = .ok (.goto (-46), 3) := by decide +kernel
theorem dX1_read_92 : decode cX1_read 92 = .ok (.aload_n 0, 1) := by decide +kernel
theorem dX1_read_93 : decode cX1_read 93 = .ok (.iconst 0, 1) := by decide +kernel
theorem dX1_read_94 : decode cX1_read 94 = .ok (.putfield 71, 3) := by decide +kernel
theorem dX1_read_97 : decode cX1_read 97 = .ok (.aload_n 0, 1) := by decide +kernel
theorem dX1_read_98 : decode cX1_read 98 = .ok (.iconst 0, 1) := by decide +kernel
theorem dX1_read_99 : decode cX1_read 99 = .ok (.putfield 74, 3) := by decide +kernel
theorem dX1_read_102 : decode cX1_read 102 = .ok (.aload_n 0, 1) := by decide +kernel
theorem dX1_read_103 : decode cX1_read 103 = .ok (.iconst 0, 1) := by decide +kernel
theorem dX1_read_104 : decode cX1_read 104 = .ok (.putfield 77, 3) := by decide +kernel
theorem dX1_read_107 : decode cX1_read 107 = .ok (.aload_n 0, 1) := by decide +kernel
theorem dX1_read_108 : decode cX1_read 108 = .ok (.iconst 0, 1) := by decide +kernel
theorem dX1_read_109 : decode cX1_read 109 = .ok (.putfield 80, 3) := by decide +kernel
theorem dX1_read_112 : decode cX1_read 112 = .ok (.return_, 1) := by decide +kernel
theorem dX1_isNone_0 : decode cX1_isNone 0 = .ok (.aload_n 0, 1) := by decide +kernel
theorem dX1_isNone_1 : decode cX1_isNone 1 = .ok (.getfield 61, 3) := by decide +kernel
theorem dX1_isNone_4 : decode cX1_isNone 4 = .ok (.ifCond .ne 7, 3) := by decide +kernel
theorem dX1_isNone_7 : decode cX1_isNone 7 = .ok (.iconst 1, 1) := by decide +kernel
theorem dX1_isNone_8 : decode cX1_isNone 8 = .ok (.goto 4, 3) := by decide +kernel
theorem dX1_isNone_11 : decode cX1_isNone 11 = .ok (.iconst 0, 1) := by decide +kernel
theorem dX1_isNone_12 : decode cX1_isNone 12 = .ok (.ireturn, 1) := by decide +kernel
theorem dX1_has_0 : decode cX1_has 0 = .ok (.iload_n 1, 1) := by decide +kernel
theorem dX1_has_1 : decode cX1_has 1 = .ok (.ifCond .lt 24, 3) := by decide +kernel
theorem dX1_has_4 : decode cX1_has 4 = .ok (.iload_n 1, 1) := by decide +kernel
theorem dX1_has_5 : decode cX1_has 5 = .ok (.aload_n 0, 1) := by decide +kernel
theorem dX1_has_6 : decode cX1_has 6 = .ok (.getfield 61, 3) := by decide +kernel
theorem dX1_has_9 : decode cX1_has 9 = .ok (.if_icmp .ge 16, 3) := by decide +kernel
theorem dX1_has_12 : decode cX1_has 12 = .ok (.aload_n 0, 1) := by decide +kernel
theorem dX1_has_13 : decode cX1_has 13 = .ok (.getfield 11, 3) := by decide +kernel
theorem dX1_has_16 : decode cX1_has 16 = .ok (.iload_n 1, 1) := by decide +kernel
theorem dX1_has_17 : decode cX1_has 17 = .ok (.aaload, 1) := by decide +kernel
theorem dX1_has_18 : decode cX1_has 18 = .ok (.ifnull 7, 3) := by decide +kernel
theorem dX1_has_21 : decode cX1_has 21 = .ok (.iconst 1, 1) := by decide +kernel
theorem dX1_has_22 : decode cX1_has 22 = .ok (.goto 4, 3) := by decide +kernel
theorem dX1_has_25 : decode cX1_has 25 = .ok (.iconst 0, 1) := by decide +kernel
theorem dX1_has_26 : decode cX1_has 26 = .ok (.ireturn, 1) := by decide +kernel
theorem dX1_hasTwo_0 : decode cX1_hasTwo 0 = .ok (.aload_n 0, 1) := by decide +kernel
theorem dX1_hasTwo_1 : decode cX1_hasTwo 1 = .ok (.iload_n 1, 1) := by decide +kernel
theorem dX1_hasTwo_2 : decode cX1_hasTwo 2 = .ok (.invokevirtual 93, 3) := by decide +kernel
theorem dX1_hasTwo_5 : decode cX1_hasTwo 5 = .ok (.ifCond .eq 20, 3) := by decide +kernel
theorem dX1_hasTwo_8 : decode cX1_hasTwo 8 = .ok (.aload_n 0, 1) := by decide +kernel
theorem dX1_hasTwo_9 : decode cX1_hasTwo 9 = .ok (.iload_n 2, 1) := by decide +kernel
theorem dX1_hasTwo_10 : decode cX1_hasTwo 10 = .ok (.invokevirtual 93, 3) := by decide +kernel
theorem dX1_hasTwo_13 : decode cX1_hasTwo 13 = .ok (.ifCond .eq 12, 3) := by decide +kernel
theorem dX1_hasTwo_16 : decode cX1_hasTwo 16 = .ok (.iload_n 1, 1) := by decide +kernel
theorem dX1_hasTwo_17 : decode cX1_hasTwo 17 = .ok (.iload_n 2, 1) := by decide +kernel
theorem dX1_hasTwo_18 : decode cX1_hasTwo 18 = .ok (.if_icmp .eq 7, 3) := by decide +kernel
theorem dX1_hasTwo_21 : decode cX1_hasTwo 21 = .ok (.iconst 1, 1) := by decide +kernel
theorem dX1_hasTwo_22 : decode cX1_hasTwo 22 = .ok (.goto 4, 3) := by decide +kernel
theorem dX1_hasTwo_25 : decode cX1_hasTwo 25 = .ok (.iconst 0, 1) := by decide +kernel
theorem dX1_hasTwo_26 : decode cX1_hasTwo 26 = .ok (.ireturn, 1) := by decide +kernel
theorem dX1_hasTile_0 : decode cX1_hasTile 0 = .ok (.aload_n 0, 1) := by decide +kernel
theorem dX1_hasTile_1 : decode cX1_hasTile 1 = .ok (.invokevirtual 97, 3) := by decide +kernel
theorem dX1_hasTile_4 : decode cX1_hasTile 4 = .ok (.ifCond .ne 14, 3) := by decide +kernel
theorem dX1_hasTile_7 : decode cX1_hasTile 7 = .ok (.iload_n 1, 1) := by decide +kernel
theorem dX1_hasTile_8 : decode cX1_hasTile 8 = .ok (.invokestatic 101, 3) := by decide +kernel
theorem dX1_hasTile_11 : decode cX1_hasTile 11 = .ok (.ifCond .eq 7, 3) := by decide +kernel
theorem dX1_hasTile_14 : decode cX1_hasTile 14 = .ok (.iconst 1, 1) := by decide +kernel
theorem dX1_hasTile_15 : decode cX1_hasTile 15 = .ok (.goto 4, 3) := by decide +kernel
theorem dX1_hasTile_18 : decode cX1_hasTile 18 = .ok (.iconst 0, 1) := by decide +kernel
theorem dX1_hasTile_19 : decode cX1_hasTile 19 = .ok (.ireturn, 1) := by decide +kernel
theorem dX1_shade_0 : decode cX1_shade 0 = .ok (.aload_n 0, 1) := by decide +kernel
theorem dX1_shade_1 : decode cX1_shade 1 = .ok (.iload_n 1, 1) := by decide +kernel
theorem dX1_shade_2 : decode cX1_shade 2 = .ok (.invokevirtual 93, 3) := by decide +kernel
theorem dX1_shade_5 : decode cX1_shade 5 = .ok (.ifCond .eq 28, 3) := by decide +kernel
theorem dX1_shade_8 : decode cX1_shade 8 = .ok (.aload_n 0, 1) := by decide +kernel
theorem dX1_shade_9 : decode cX1_shade 9 = .ok (.getfield 11, 3) := by decide +kernel
theorem dX1_shade_12 : decode cX1_shade 12 = .ok (.iload_n 1, 1) := by decide +kernel
theorem dX1_shade_13 : decode cX1_shade 13 = .ok (.aaload, 1) := by decide +kernel
theorem dX1_shade_14 : decode cX1_shade 14 = .ok (.aload_n 0, 1) := by decide +kernel
theorem dX1_shade_15 : decode cX1_shade 15 = .ok (.getfield 17, 3) := by decide +kernel
theorem dX1_shade_18 : decode cX1_shade 18 = .ok (.iload_n 1, 1) := by decide +kernel
theorem dX1_shade_19 : decode cX1_shade 19 = .ok (.iaload, 1) := by decide +kernel
theorem dX1_shade_20 : decode cX1_shade 20 = .ok (.aload_n 0, 1) := by decide +kernel
theorem dX1_shade_21 : decode cX1_shade 21 = .ok (.getfield 21, 3) := by decide +kernel
theorem dX1_shade_24 : decode cX1_shade 24 = .ok (.iload_n 1, 1) := by decide +kernel
theorem dX1_shade_25 : decode cX1_shade 25 = .ok (.iaload, 1) := by decide +kernel
theorem dX1_shade_26 : decode cX1_shade 26 = .ok (.iload_n 2, 1) := by decide +kernel
theorem dX1_shade_27 : decode cX1_shade 27 = .ok (.invokevirtual 104, 3) := by decide +kernel
theorem dX1_shade_30 : decode cX1_shade 30 = .ok (.goto 4, 3) := by decide +kernel
theorem dX1_shade_33 : decode cX1_shade 33 = .ok (.iconst 0, 1) := by decide +kernel
theorem dX1_shade_34 : decode cX1_shade 34 = .ok (.ireturn, 1) := by decide +kernel
theorem dX1_shadeIf_0 : decode cX1_shadeIf 0 = .ok (.aload_n 0, 1) := by decide +kernel
theorem dX1_shadeIf_1 : decode cX1_shadeIf 1 = .ok (.iload_n 1, 1) := by decide +kernel
theorem dX1_shadeIf_2 : decode cX1_shadeIf 2 = .ok (.invokevirtual 93, 3) := by decide +kernel
theorem dX1_shadeIf_5 : decode cX1_shadeIf 5 = .ok (.ifCond .eq 19, 3) := by decide +kernel
theorem dX1_shadeIf_8 : decode cX1_shadeIf 8 = .ok (.aload_n 0, 1) := by decide +kernel
theorem dX1_shadeIf_9 : decode cX1_shadeIf 9 = .ok (.getfield 11, 3) := by decide +kernel
theorem dX1_shadeIf_12 : decode cX1_shadeIf 12 = .ok (.iload_n 1, 1) := by decide +kernel
theorem dX1_shadeIf_13 : decode cX1_shadeIf 13 = .ok (.aaload, 1) := by decide +kernel
theorem dX1_shadeIf_14 : decode cX1_shadeIf 14 = .ok (.iload_n 2, 1) := by decide +kernel
theorem dX1_shadeIf_15 : decode cX1_shadeIf 15 = .ok (.iload_n 3, 1) := by decide +kernel
theorem dX1_shadeIf_16 : decode cX1_shadeIf 16 = .ok (.iload 4, 2) := by decide +kernel
theorem dX1_shadeIf_18 : decode cX1_shadeIf 18 = .ok (.invokevirtual 104, 3) := by decide +kernel
theorem dX1_shadeIf_21 : decode cX1_shadeIf 21 = .ok (.goto 4, 3) := by decide +kernel
theorem dX1_shadeIf_24 : decode cX1_shadeIf 24 = .ok (.iconst 0, 1) := by decide +kernel
theorem dX1_shadeIf_25 : decode cX1_shadeIf 25 = .ok (.ireturn, 1) := by decide +kernel
theorem dX1_worthOf_0 : decode cX1_worthOf 0 = .ok (.iconst 0, 1) := by decide +kernel
theorem dX1_worthOf_1 : decode cX1_worthOf 1 = .ok (.istore_n 2, 1) := by decide +kernel
theorem dX1_worthOf_2 : decode cX1_worthOf 2 = .ok (.iconst 0, 1) := by decide +kernel
theorem dX1_worthOf_3 : decode cX1_worthOf 3 = .ok (.istore_n 3, 1) := by decide +kernel
theorem dX1_worthOf_4 : decode cX1_worthOf 4 = .ok (.iload_n 3, 1) := by decide +kernel
theorem dX1_worthOf_5 : decode cX1_worthOf 5 = .ok (.bipush 10, 2) := by decide +kernel
theorem dX1_worthOf_7 : decode cX1_worthOf 7 = .ok (.if_icmp .ge 26, 3) := by decide +kernel
theorem dX1_worthOf_10 : decode cX1_worthOf 10 = .ok (.iload_n 1, 1) := by decide +kernel
theorem dX1_worthOf_11 : decode cX1_worthOf 11 = .ok (.iload_n 3, 1) := by decide +kernel
theorem dX1_worthOf_12 : decode cX1_worthOf 12 = .ok (.ishr, 1) := by decide +kernel
theorem dX1_worthOf_13 : decode cX1_worthOf 13 = .ok (.iconst 1, 1) := by decide +kernel
theorem dX1_worthOf_14 : decode cX1_worthOf 14 = .ok (.iand, 1) := by decide +kernel
theorem dX1_worthOf_15 : decode cX1_worthOf 15 = .ok (.ifCond .eq 12, 3) := by decide +kernel
theorem dX1_worthOf_18 : decode cX1_worthOf 18 = .ok (.iload_n 2, 1) := by decide +kernel
theorem dX1_worthOf_19 : decode cX1_worthOf 19 = .ok (.aload_n 0, 1) := by decide +kernel
theorem dX1_worthOf_20 : decode cX1_worthOf 20 = .ok (.getfield 24, 3) := by decide +kernel
theorem dX1_worthOf_23 : decode cX1_worthOf 23 = .ok (.iload_n 3, 1) := by decide +kernel
theorem dX1_worthOf_24 : decode cX1_worthOf 24 = .ok (.iaload, 1) := by decide +kernel
theorem dX1_worthOf_25 : decode cX1_worthOf 25 = .ok (.iadd, 1) := by decide +kernel
theorem dX1_worthOf_26 : decode cX1_worthOf 26 = .ok (.istore_n 2, 1) := by decide +kernel
theorem dX1_worthOf_27 : decode cX1_worthOf 27 = .ok (.iinc 3 1, 3) := by decide +kernel
theorem dX1_worthOf_30 : decode cX1_worthOf 30 = .ok (.goto (-26), 3) := by decide +kernel
theorem dX1_worthOf_33 : decode cX1_worthOf 33 = .ok (.iload_n 2, 1) := by decide +kernel
theorem dX1_worthOf_34 : decode cX1_worthOf 34 = .ok (.ireturn, 1) := by decide +kernel
theorem dX1_balance_0 : decode cX1_balance 0 = .ok (.aload_n 0, 1) := by decide +kernel
theorem dX1_balance_1 : decode cX1_balance 1 = .ok (.aload_n 0, 1) := by decide +kernel
theorem dX1_balance_2 : decode cX1_balance 2 = .ok (.iload_n 1, 1) := by decide +kernel
theorem dX1_balance_3 : decode cX1_balance 3 = .ok (.iload_n 3, 1) := by decide +kernel
theorem dX1_balance_4 : decode cX1_balance 4 = .ok (.invokevirtual 108, 3) := by decide +kernel
theorem dX1_balance_7 : decode cX1_balance 7 = .ok (.invokevirtual 110, 3) := by decide +kernel
theorem dX1_balance_10 : decode cX1_balance 10 = .ok (.aload_n 0, 1) := by decide +kernel
theorem dX1_balance_11 : decode cX1_balance 11 = .ok (.aload_n 0, 1) := by decide +kernel
theorem dX1_balance_12 : decode cX1_balance 12 = .ok (.iload_n 2, 1) := by decide +kernel
theorem dX1_balance_13 : decode cX1_balance 13 = .ok (.iload_n 3, 1) := by decide +kernel
theorem dX1_balance_14 : decode cX1_balance 14 = .ok (.invokevirtual 108, 3) := by decide +kernel
theorem dX1_balance_17 : decode cX1_balance 17 = .ok (.invokevirtual 110, 3) := by decide +kernel
theorem dX1_balance_20 : decode cX1_balance 20 = .ok (.isub, 1) := by decide +kernel
theorem dX1_balance_21 : decode cX1_balance 21 = .ok (.ireturn, 1) := by decide +kernel
theorem dX1_standingOn_0 : decode cX1_standingOn 0 = .ok (.iconst 0, 1) := by decide +kernel
theorem dX1_standingOn_1 : decode cX1_standingOn 1 = .ok (.istore_n 2, 1) := by decide +kernel
theorem dX1_standingOn_2 : decode cX1_standingOn 2 = .ok (.iconst 0, 1) := by decide +kernel
theorem dX1_standingOn_3 : decode cX1_standingOn 3 = .ok (.istore_n 3, 1) := by decide +kernel
theorem dX1_standingOn_4 : decode cX1_standingOn 4 = .ok (.iload_n 3, 1) := by decide +kernel
theorem dX1_standingOn_5 : decode cX1_standingOn 5 = .ok (.aload_n 0, 1) := by decide +kernel
theorem dX1_standingOn_6 : decode cX1_standingOn 6 = .ok (.getfield 61, 3) := by decide +kernel
theorem dX1_standingOn_9 : decode cX1_standingOn 9 = .ok (.if_icmp .ge 25, 3) := by decide +kernel
theorem dX1_standingOn_12 : decode cX1_standingOn 12 = .ok (.aload_n 0, 1) := by decide +kernel
theorem dX1_standingOn_13 : decode cX1_standingOn 13 = .ok (.getfield 21, 3) := by decide +kernel
theorem dX1_standingOn_16 : decode cX1_standingOn 16 = .ok (.iload_n 3, 1) := by decide +kernel
theorem dX1_standingOn_17 : decode cX1_standingOn 17 = .ok (.iaload, 1) := by decide +kernel
theorem dX1_standingOn_18 : decode cX1_standingOn 18 = .ok (.iload_n 1, 1) := by decide +kernel
theorem dX1_standingOn_19 : decode cX1_standingOn 19 = .ok (.if_icmp .ne 9, 3) := by decide +kernel
theorem dX1_standingOn_22 : decode cX1_standingOn 22 = .ok (.iload_n 2, 1) := by decide +kernel
theorem dX1_standingOn_23 : decode cX1_standingOn 23 = .ok (.iconst 1, 1) := by decide +kernel
theorem dX1_standingOn_24 : decode cX1_standingOn 24 = .ok (.iload_n 3, 1) := by decide +kernel
theorem dX1_standingOn_25 : decode cX1_standingOn 25 = .ok (.ishl, 1) := by decide +kernel
theorem dX1_standingOn_26 : decode cX1_standingOn 26 = .ok (.ior, 1) := by decide +kernel
theorem dX1_standingOn_27 : decode cX1_standingOn 27 = .ok (.istore_n 2, 1) := by decide +kernel
theorem dX1_standingOn_28 : decode cX1_standingOn 28 = .ok (.iinc 3 1, 3) := by decide +kernel
theorem dX1_standingOn_31 : decode cX1_standingOn 31 = .ok (.goto (-27), 3) := by decide +kernel
theorem dX1_standingOn_34 : decode cX1_standingOn 34 = .ok (.iload_n 2, 1) := by decide +kernel
theorem dX1_standingOn_35 : decode cX1_standingOn 35 = .ok (.ireturn, 1) := by decide +kernel
theorem dX1_covering_0 : decode cX1_covering 0 = .ok (.iconst 0, 1) := by decide +kernel
theorem dX1_covering_1 : decode cX1_covering 1 = .ok (.istore_n 2, 1) := by decide +kernel
theorem dX1_covering_2 : decode cX1_covering 2 = .ok (.iconst 0, 1) := by decide +kernel
theorem dX1_covering_3 : decode cX1_covering 3 = .ok (.istore_n 3, 1) := by decide +kernel
theorem dX1_covering_4 : decode cX1_covering 4 = .ok (.iload_n 3, 1) := by decide +kernel
theorem dX1_covering_5 : decode cX1_covering 5 = .ok (.aload_n 0, 1) := by decide +kernel
theorem dX1_covering_6 : decode cX1_covering 6 = .ok (.getfield 61, 3) := by decide +kernel
theorem dX1_covering_9 : decode cX1_covering 9 = .ok (.if_icmp .ge 31, 3) := by decide +kernel
theorem dX1_covering_12 : decode cX1_covering 12 = .ok (.aload_n 0, 1) := by decide +kernel
theorem dX1_covering_13 : decode cX1_covering 13 = .ok (.iload_n 3, 1) := by decide +kernel
theorem dX1_covering_14 : decode cX1_covering 14 = .ok (.aload_n 0, 1) := by decide +kernel
theorem dX1_covering_15 : decode cX1_covering 15 = .ok (.getfield 71, 3) := by decide +kernel
theorem dX1_covering_18 : decode cX1_covering 18 = .ok (.invokevirtual 108, 3) := by decide +kernel
theorem dX1_covering_21 : decode cX1_covering 21 = .ok (.iload_n 1, 1) := by decide +kernel
theorem dX1_covering_22 : decode cX1_covering 22 = .ok (.ishr, 1) := by decide +kernel
theorem dX1_covering_23 : decode cX1_covering 23 = .ok (.iconst 1, 1) := by decide +kernel
theorem dX1_covering_24 : decode cX1_covering 24 = .ok (.iand, 1) := by decide +kernel
theorem dX1_covering_25 : decode cX1_covering 25 = .ok (.ifCond .eq 9, 3) := by decide +kernel
theorem dX1_covering_28 : decode cX1_covering 28 = .ok (.iload_n 2, 1) := by decide +kernel
theorem dX1_covering_29 : decode cX1_covering 29 = .ok (.iconst 1, 1) := by decide +kernel
theorem dX1_covering_30 : decode cX1_covering 30 = .ok (.iload_n 3, 1) := by decide +kernel
theorem dX1_covering_31 : decode cX1_covering 31 = .ok (.ishl, 1) := by decide +kernel
theorem dX1_covering_32 : decode cX1_covering 32 = .ok (.ior, 1) := by decide +kernel
theorem dX1_covering_33 : decode cX1_covering 33 = .ok (.istore_n 2, 1) := by decide +kernel
theorem dX1_covering_34 : decode cX1_covering 34 = .ok (.iinc 3 1, 3) := by decide +kernel
theorem dX1_covering_37 : decode cX1_covering 37 = .ok (.goto (-33), 3) := by decide +kernel
theorem dX1_covering_40 : decode cX1_covering 40 = .ok (.iload_n 2, 1) := by decide +kernel
theorem dX1_covering_41 : decode cX1_covering 41 = .ok (.ireturn, 1) := by decide +kernel
theorem dX1_tilesCoveredBy_0 : decode cX1_tilesCoveredBy 0 = .ok (.iconst 0, 1) := by decide +kernel
theorem dX1_tilesCoveredBy_1 : decode cX1_tilesCoveredBy 1 = .ok (.istore_n 2, 1) := by decide +kernel
theorem dX1_tilesCoveredBy_2 : decode cX1_tilesCoveredBy 2 = .ok (.iconst 0, 1) := by decide +kernel
theorem dX1_tilesCoveredBy_3 : decode cX1_tilesCoveredBy 3 = .ok (.istore_n 3, 1) := by decide +kernel
theorem dX1_tilesCoveredBy_4 : decode cX1_tilesCoveredBy 4 = .ok (.iload_n 3, 1) := by decide +kernel
theorem dX1_tilesCoveredBy_5 : decode cX1_tilesCoveredBy 5 = .ok (.bipush 10, 2) := by decide +kernel
theorem dX1_tilesCoveredBy_7 : decode cX1_tilesCoveredBy 7 = .ok (.if_icmp .ge 24, 3) := by decide +kernel
theorem dX1_tilesCoveredBy_10 : decode cX1_tilesCoveredBy 10 = .ok (.aload_n 0, 1) := by decide +kernel
theorem dX1_tilesCoveredBy_11 : decode cX1_tilesCoveredBy 11 = .ok (.iload_n 3, 1) := by decide +kernel
theorem dX1_tilesCoveredBy_12 : decode cX1_tilesCoveredBy 12 = .ok (.invokevirtual 114, 3) := by decide +kernel
theorem dX1_tilesCoveredBy_15 : decode cX1_tilesCoveredBy 15 = .ok (.invokestatic 117, 3) := by decide +kernel
theorem dX1_tilesCoveredBy_18 : decode cX1_tilesCoveredBy 18 = .ok (.iload_n 1, 1) := by decide +kernel
theorem dX1_tilesCoveredBy_19 : decode cX1_tilesCoveredBy 19 = .ok (.if_icmp .lt 6, 3) := by decide +kernel
theorem dX1_tilesCoveredBy_22 : decode cX1_tilesCoveredBy 22 = .ok (.iinc 2 1, 3) := by decide +kernel
theorem dX1_tilesCoveredBy_25 : decode cX1_tilesCoveredBy 25 = .ok (.iinc 3 1, 3) := by decide +kernel
theorem dX1_tilesCoveredBy_28 : decode cX1_tilesCoveredBy 28 = .ok (.goto (-24), 3) := by decide +kernel
theorem dX1_tilesCoveredBy_31 : decode cX1_tilesCoveredBy 31 = .ok (.iload_n 2, 1) := by decide +kernel
theorem dX1_tilesCoveredBy_32 : decode cX1_tilesCoveredBy 32 = .ok (.ireturn, 1) := by decide +kernel
theorem dX1_casesAsTheyShouldBe_0 : decode cX1_casesAsTheyShouldBe 0 = .ok (.iconst 0, 1) := by decide +kernel
theorem dX1_casesAsTheyShouldBe_1 : decode cX1_casesAsTheyShouldBe 1 = .ok (.istore_n 1, 1) := by decide +kernel
theorem dX1_casesAsTheyShouldBe_2 : decode cX1_casesAsTheyShouldBe 2 = .ok (.iconst 0, 1) := by decide +kernel
theorem dX1_casesAsTheyShouldBe_3 : decode cX1_casesAsTheyShouldBe 3 = .ok (.istore_n 2, 1) := by decide +kernel
theorem dX1_casesAsTheyShouldBe_4 : decode cX1_casesAsTheyShouldBe 4 = .ok (.iload_n 2, 1) := by decide +kernel
theorem dX1_casesAsTheyShouldBe_5 : decode cX1_casesAsTheyShouldBe 5 = .ok (.aload_n 0, 1) := by decide +kernel
theorem dX1_casesAsTheyShouldBe_6 : decode cX1_casesAsTheyShouldBe 6 = .ok (.getfield 77, 3) := by decide +kernel
theorem dX1_casesAsTheyShouldBe_9 : decode cX1_casesAsTheyShouldBe 9 = .ok (.if_icmp .ge 35, 3) := by decide +kernel
theorem dX1_casesAsTheyShouldBe_12 : decode cX1_casesAsTheyShouldBe 12 = .ok (.aload_n 0, 1) := by decide +kernel
theorem dX1_casesAsTheyShouldBe_13 : decode cX1_casesAsTheyShouldBe 13 = .ok (.aload_n 0, 1) := by decide +kernel
theorem dX1_casesAsTheyShouldBe_14 : decode cX1_casesAsTheyShouldBe 14 = .ok (.getfield 27, 3) := by decide +kernel
theorem dX1_casesAsTheyShouldBe_17 : decode cX1_casesAsTheyShouldBe 17 = .ok (.iload_n 2, 1) := by decide +kernel
theorem dX1_casesAsTheyShouldBe_18 : decode cX1_casesAsTheyShouldBe 18 = .ok (.iaload, 1) := by decide +kernel
theorem dX1_casesAsTheyShouldBe_19 : decode cX1_casesAsTheyShouldBe 19 = .ok (.aload_n 0, 1) := by decide +kernel
theorem dX1_casesAsTheyShouldBe_20 : decode cX1_casesAsTheyShouldBe 20 = .ok (.getfield 30, 3) := by decide +kernel
theorem dX1_casesAsTheyShouldBe_23 : decode cX1_casesAsTheyShouldBe 23 = .ok (.iload_n 2, 1) := by decide +kernel
theorem dX1_casesAsTheyShouldBe_24 : decode cX1_casesAsTheyShouldBe 24 = .ok (.iaload, 1) := by decide +kernel
theorem dX1_casesAsTheyShouldBe_25 : decode cX1_casesAsTheyShouldBe 25 = .ok (.aload_n 0, 1) := by decide +kernel
theorem dX1_casesAsTheyShouldBe_26 : decode cX1_casesAsTheyShouldBe 26 = .ok (.getfield 71, 3) := by decide +kernel
theorem dX1_casesAsTheyShouldBe_29 : decode cX1_casesAsTheyShouldBe 29 = .ok (.invokevirtual 122, 3) := by decide +kernel
theorem dX1_casesAsTheyShouldBe_32 : decode cX1_casesAsTheyShouldBe 32 = .ok (.ifCond .le 6, 3) := by decide +kernel
theorem dX1_casesAsTheyShouldBe_35 : decode cX1_casesAsTheyShouldBe 35 = .ok (.iinc 1 1, 3) := by decide +kernel
theorem dX1_casesAsTheyShouldBe_38 : decode cX1_casesAsTheyShouldBe 38 = .ok (.iinc 2 1, 3) := by decide +kernel
theorem dX1_casesAsTheyShouldBe_41 : decode cX1_casesAsTheyShouldBe 41 = .ok (.goto (-37), 3) := by decide +kernel
theorem dX1_casesAsTheyShouldBe_44 : decode cX1_casesAsTheyShouldBe 44 = .ok (.iload_n 1, 1) := by decide +kernel
theorem dX1_casesAsTheyShouldBe_45 : decode cX1_casesAsTheyShouldBe 45 = .ok (.ireturn, 1) := by decide +kernel
theorem dX2_init_0 : decode cX2_init 0 = .ok (.aload_n 0, 1) := by decide +kernel
theorem dX2_init_1 : decode cX2_init 1 = .ok (.invokespecial 3, 3) := by decide +kernel
theorem dX2_init_4 : decode cX2_init 4 = .ok (.aload_n 0, 1) := by decide +kernel
theorem dX2_init_5 : decode cX2_init 5 = .ok (.iconst 5, 1) := by decide +kernel
theorem dX2_init_6 : decode cX2_init 6 = .ok (.newarray .int, 2) := by decide +kernel
theorem dX2_init_8 : decode cX2_init 8 = .ok (.putfield 9, 3) := by decide +kernel
theorem dX2_init_11 : decode cX2_init 11 = .ok (.aload_n 0, 1) := by decide +kernel
theorem dX2_init_12 : decode cX2_init 12 = .ok (.iconst 5, 1) := by decide +kernel
theorem dX2_init_13 : decode cX2_init 13 = .ok (.newarray .int, 2) := by decide +kernel
theorem dX2_init_15 : decode cX2_init 15 = .ok (.putfield 15, 3) := by decide +kernel
theorem dX2_init_18 : decode cX2_init 18 = .ok (.return_, 1) := by decide +kernel
theorem dX3_init_0 : decode cX3_init 0 = .ok (.aload_n 0, 1) := by decide +kernel
theorem dX3_init_1 : decode cX3_init 1 = .ok (.invokespecial 3, 3) := by decide +kernel
theorem dX3_init_4 : decode cX3_init 4 = .ok (.aload_n 0, 1) := by decide +kernel
theorem dX3_init_5 : decode cX3_init 5 = .ok (.bipush 10, 2) := by decide +kernel
theorem dX3_init_7 : decode cX3_init 7 = .ok (.newarray .int, 2) := by decide +kernel
theorem dX3_init_9 : decode cX3_init 9 = .ok (.putfield 9, 3) := by decide +kernel
theorem dX3_init_12 : decode cX3_init 12 = .ok (.aload_n 0, 1) := by decide +kernel
theorem dX3_init_13 : decode cX3_init 13 = .ok (.bipush 10, 2) := by decide +kernel
theorem dX3_init_15 : decode cX3_init 15 = .ok (.newarray .int, 2) := by decide +kernel
theorem dX3_init_17 : decode cX3_init 17 = .ok (.putfield 15, 3) := by decide +kernel
theorem dX3_init_20 : decode cX3_init 20 = .ok (.aload_n 0, 1) := by decide +kernel
theorem dX3_init_21 : decode cX3_init 21 = .ok (.bipush 100, 2) := by decide +kernel
theorem dX3_init_23 : decode cX3_init 23 = .ok (.newarray .int, 2) := by decide +kernel
theorem dX3_init_25 : decode cX3_init 25 = .ok (.putfield 18, 3) := by decide +kernel
theorem dX3_init_28 : decode cX3_init 28 = .ok (.aload_n 0, 1) := by decide +kernel
theorem dX3_init_29 : decode cX3_init 29 = .ok (.bipush 100, 2) := by decide +kernel
theorem dX3_init_31 : decode cX3_init 31 = .ok (.newarray .int, 2) := by decide +kernel
theorem dX3_init_33 : decode cX3_init 33 = .ok (.putfield 21, 3) := by decide +kernel
theorem dX3_init_36 : decode cX3_init 36 = .ok (.return_, 1) := by decide +kernel
theorem dX4_init_0 : decode cX4_init 0 = .ok (.aload_n 0, 1) := by decide +kernel
theorem dX4_init_1 : decode cX4_init 1 = .ok (.iconst 1, 1) := by decide +kernel
theorem dX4_init_2 : decode cX4_init 2 = .ok (.iconst 2, 1) := by decide +kernel
theorem dX4_init_3 : decode cX4_init 3 = .ok (.invokespecial 5, 3) := by decide +kernel
theorem dX4_init_6 : decode cX4_init 6 = .ok (.return_, 1) := by decide +kernel
theorem dX4_init__0 : decode cX4_init_ 0 = .ok (.aload_n 0, 1) := by decide +kernel
theorem dX4_init__1 : decode cX4_init_ 1 = .ok (.iload_n 1, 1) := by decide +kernel
theorem dX4_init__2 : decode cX4_init_ 2 = .ok (.iload_n 2, 1) := by decide +kernel
theorem dX4_init__3 : decode cX4_init_ 3 = .ok (.invokespecial 9, 3) := by decide +kernel
theorem dX4_init__6 : decode cX4_init_ 6 = .ok (.return_, 1) := by decide +kernel
theorem dX5_init_0 : decode cX5_init 0 = .ok (.aload_n 0, 1) := by decide +kernel
theorem dX5_init_1 : decode cX5_init 1 = .ok (.invokespecial 3, 3) := by decide +kernel
theorem dX5_init_4 : decode cX5_init 4 = .ok (.aload_n 0, 1) := by decide +kernel
theorem dX5_init_5 : decode cX5_init 5 = .ok (.iload_n 1, 1) := by decide +kernel
theorem dX5_init_6 : decode cX5_init 6 = .ok (.putfield 9, 3) := by decide +kernel
theorem dX5_init_9 : decode cX5_init 9 = .ok (.aload_n 0, 1) := by decide +kernel
theorem dX5_init_10 : decode cX5_init 10 = .ok (.iload_n 2, 1) := by decide +kernel
theorem dX5_init_11 : decode cX5_init 11 = .ok (.putfield 15, 3) := by decide +kernel
theorem dX5_init_14 : decode cX5_init 14 = .ok (.return_, 1) := by decide +kernel
theorem dX5_shade_0 : decode cX5_shade 0 = .ok (.aload_n 0, 1) := by decide +kernel
theorem dX5_shade_1 : decode cX5_shade 1 = .ok (.iload_n 1, 1) := by decide +kernel
theorem dX5_shade_2 : decode cX5_shade 2 = .ok (.iload_n 3, 1) := by decide +kernel
theorem dX5_shade_3 : decode cX5_shade 3 = .ok (.invokevirtual 18, 3) := by decide +kernel
theorem dX5_shade_6 : decode cX5_shade 6 = .ok (.istore 4, 2) := by decide +kernel
theorem dX5_shade_8 : decode cX5_shade 8 = .ok (.iload_n 3, 1) := by decide +kernel
theorem dX5_shade_9 : decode cX5_shade 9 = .ok (.bipush 6, 2) := by decide +kernel
theorem dX5_shade_11 : decode cX5_shade 11 = .ok (.if_icmp .ge 12, 3) := by decide +kernel
theorem dX5_shade_14 : decode cX5_shade 14 = .ok (.iload_n 2, 1) := by decide +kernel
theorem dX5_shade_15 : decode cX5_shade 15 = .ok (.iload 4, 2) := by decide +kernel
theorem dX5_shade_17 : decode cX5_shade 17 = .ok (.invokestatic 22, 3) := by decide +kernel
theorem dX5_shade_20 : decode cX5_shade 20 = .ok (.goto 9, 3) := by decide +kernel
theorem dX5_shade_23 : decode cX5_shade 23 = .ok (.iload_n 2, 1) := by decide +kernel
theorem dX5_shade_24 : decode cX5_shade 24 = .ok (.iload 4, 2) := by decide +kernel
theorem dX5_shade_26 : decode cX5_shade 26 = .ok (.invokestatic 25, 3) := by decide +kernel
theorem dX5_shade_29 : decode cX5_shade 29 = .ok (.ireturn, 1) := by decide +kernel
theorem dX5_length_0 : decode cX5_length 0 = .ok (.iload_n 2, 1) := by decide +kernel
theorem dX5_length_1 : decode cX5_length 1 = .ok (.bipush 6, 2) := by decide +kernel
theorem dX5_length_3 : decode cX5_length 3 = .ok (.if_icmp .ge 10, 3) := by decide +kernel
theorem dX5_length_6 : decode cX5_length 6 = .ok (.bipush 6, 2) := by decide +kernel
theorem dX5_length_8 : decode cX5_length 8 = .ok (.iload_n 2, 1) := by decide +kernel
theorem dX5_length_9 : decode cX5_length 9 = .ok (.isub, 1) := by decide +kernel
theorem dX5_length_10 : decode cX5_length 10 = .ok (.goto 7, 3) := by decide +kernel
theorem dX5_length_13 : decode cX5_length 13 = .ok (.iload_n 2, 1) := by decide +kernel
theorem dX5_length_14 : decode cX5_length 14 = .ok (.bipush 6, 2) := by decide +kernel
theorem dX5_length_16 : decode cX5_length 16 = .ok (.isub, 1) := by decide +kernel
theorem dX5_length_17 : decode cX5_length 17 = .ok (.istore_n 3, 1) := by decide +kernel
theorem dX5_length_18 : decode cX5_length 18 = .ok (.iload_n 1, 1) := by decide +kernel
theorem dX5_length_19 : decode cX5_length 19 = .ok (.aload_n 0, 1) := by decide +kernel
theorem dX5_length_20 : decode cX5_length 20 = .ok (.getfield 15, 3) := by decide +kernel
theorem dX5_length_23 : decode cX5_length 23 = .ok (.iadd, 1) := by decide +kernel
theorem dX5_length_24 : decode cX5_length 24 = .ok (.iload_n 3, 1) := by decide +kernel
theorem dX5_length_25 : decode cX5_length 25 = .ok (.imul, 1) := by decide +kernel
theorem dX5_length_26 : decode cX5_length 26 = .ok (.iconst 3, 1) := by decide +kernel
theorem dX5_length_27 : decode cX5_length 27 = .ok (.idiv, 1) := by decide +kernel
theorem dX5_length_28 : decode cX5_length 28 = .ok (.ireturn, 1) := by decide +kernel
theorem dX5_west_0 : decode cX5_west 0 = .ok (.iload_n 0, 1) := by decide +kernel
theorem dX5_west_1 : decode cX5_west 1 = .ok (.iload_n 1, 1) := by decide +kernel
theorem dX5_west_2 : decode cX5_west 2 = .ok (.if_icmp .le 9, 3) := by decide +kernel
theorem dX5_west_5 : decode cX5_west 5 = .ok (.iload_n 0, 1) := by decide +kernel
theorem dX5_west_6 : decode cX5_west 6 = .ok (.iload_n 1, 1) := by decide +kernel
theorem dX5_west_7 : decode cX5_west 7 = .ok (.isub, 1) := by decide +kernel
theorem dX5_west_8 : decode cX5_west 8 = .ok (.goto 4, 3) := by decide +kernel
theorem dX5_west_11 : decode cX5_west 11 = .ok (.iconst 0, 1) := by decide +kernel
theorem dX5_west_12 : decode cX5_west 12 = .ok (.istore_n 2, 1) := by decide +kernel
theorem dX5_west_13 : decode cX5_west 13 = .ok (.iconst 1, 1) := by decide +kernel
theorem dX5_west_14 : decode cX5_west 14 = .ok (.iload_n 0, 1) := by decide +kernel
theorem dX5_west_15 : decode cX5_west 15 = .ok (.ishl, 1) := by decide +kernel
theorem dX5_west_16 : decode cX5_west 16 = .ok (.iconst 1, 1) := by decide +kernel
theorem dX5_west_17 : decode cX5_west 17 = .ok (.iload_n 2, 1) := by decide +kernel
theorem dX5_west_18 : decode cX5_west 18 = .ok (.ishl, 1) := by decide +kernel
theorem dX5_west_19 : decode cX5_west 19 = .ok (.isub, 1) := by decide +kernel
theorem dX5_west_20 : decode cX5_west 20 = .ok (.ireturn, 1) := by decide +kernel
theorem dX5_east_0 : decode cX5_east 0 = .ok (.iload_n 0, 1) := by decide +kernel
theorem dX5_east_1 : decode cX5_east 1 = .ok (.iload_n 1, 1) := by decide +kernel
theorem dX5_east_2 : decode cX5_east 2 = .ok (.iadd, 1) := by decide +kernel
theorem dX5_east_3 : decode cX5_east 3 = .ok (.bipush 10, 2) := by decide +kernel
theorem dX5_east_5 : decode cX5_east 5 = .ok (.if_icmp .ge 9, 3) := by decide +kernel
theorem dX5_east_8 : decode cX5_east 8 = .ok (.iload_n 0, 1) := by decide +kernel
theorem dX5_east_9 : decode cX5_east 9 = .ok (.iload_n 1, 1) := by decide +kernel
theorem dX5_east_10 : decode cX5_east 10 = .ok (.iadd, 1) := by decide +kernel
theorem dX5_east_11 : decode cX5_east 11 = .ok (.goto 5, 3) := by decide +kernel
theorem dX5_east_14 : decode cX5_east 14 = .ok (.bipush 9, 2) := by decide +kernel
theorem dX5_east_16 : decode cX5_east 16 = .ok (.istore_n 2, 1) := by decide +kernel
theorem dX5_east_17 : decode cX5_east 17 = .ok (.iconst 1, 1) := by decide +kernel
theorem dX5_east_18 : decode cX5_east 18 = .ok (.iload_n 2, 1) := by decide +kernel
theorem dX5_east_19 : decode cX5_east 19 = .ok (.iconst 1, 1) := by decide +kernel
theorem dX5_east_20 : decode cX5_east 20 = .ok (.iadd, 1) := by decide +kernel
theorem dX5_east_21 : decode cX5_east 21 = .ok (.ishl, 1) := by decide +kernel
theorem dX5_east_22 : decode cX5_east 22 = .ok (.iconst 1, 1) := by decide +kernel
theorem dX5_east_23 : decode cX5_east 23 = .ok (.iload_n 0, 1) := by decide +kernel
theorem dX5_east_24 : decode cX5_east 24 = .ok (.iconst 1, 1) := by decide +kernel
theorem dX5_east_25 : decode cX5_east 25 = .ok (.iadd, 1) := by decide +kernel
theorem dX5_east_26 : decode cX5_east 26 = .ok (.ishl, 1) := by decide +kernel
theorem dX5_east_27 : decode cX5_east 27 = .ok (.isub, 1) := by decide +kernel
theorem dX5_east_28 : decode cX5_east 28 = .ok (.ireturn, 1) := by decide +kernel
theorem dX6_init_0 : decode cX6_init 0 = .ok (.aload_n 0, 1) := by decide +kernel
theorem dX6_init_1 : decode cX6_init 1 = .ok (.invokespecial 5, 3) := by decide +kernel
theorem dX6_init_4 : decode cX6_init 4 = .ok (.aload_n 0, 1) := by decide +kernel
theorem dX6_init_5 : decode cX6_init 5 = .ok (.bipush 34, 2) := by decide +kernel
theorem dX6_init_7 : decode cX6_init 7 = .ok (.newarray .char, 2) := by decide +kernel
theorem dX6_init_9 : decode cX6_init 9 = .ok (.putfield 11, 3) := by decide +kernel
theorem dX6_init_12 : decode cX6_init 12 = .ok (.return_, 1) := by decide +kernel
theorem dX6_firstWrong_0 : decode cX6_firstWrong 0 = .ok (.iconst 0, 1) := by decide +kernel
theorem dX6_firstWrong_1 : decode cX6_firstWrong 1 = .ok (.istore_n 1, 1) := by decide +kernel
theorem dX6_firstWrong_2 : decode cX6_firstWrong 2 = .ok (.iload_n 1, 1) := by decide +kernel
theorem dX6_firstWrong_3 : decode cX6_firstWrong 3 = .ok (.aload_n 0, 1) := by decide +kernel
theorem dX6_firstWrong_4 : decode cX6_firstWrong 4 = .ok (.getfield 15, 3) := by decide +kernel
theorem dX6_firstWrong_7 : decode cX6_firstWrong 7 = .ok (.if_icmp .ge 17, 3) := by decide +kernel
theorem dX6_firstWrong_10 : decode cX6_firstWrong 10 = .ok (.aload_n 0, 1) := by decide +kernel
theorem dX6_firstWrong_11 : decode cX6_firstWrong 11 = .ok (.iload_n 1, 1) := by decide +kernel
theorem dX6_firstWrong_12 : decode cX6_firstWrong 12 = .ok (.invokevirtual 19, 3) := by decide +kernel
theorem dX6_firstWrong_15 : decode cX6_firstWrong 15 = .ok (.ifCond .eq 9, 3) := by decide +kernel
theorem dX6_firstWrong_18 : decode cX6_firstWrong 18 = .ok (.iinc 1 1, 3) := by decide +kernel
theorem dX6_firstWrong_21 : decode cX6_firstWrong 21 = .ok (.goto (-19), 3) := by decide +kernel
theorem dX6_firstWrong_24 : decode cX6_firstWrong 24 = .ok (.iload_n 1, 1) := by decide +kernel
theorem dX6_firstWrong_25 : decode cX6_firstWrong 25 = .ok (.ireturn, 1) := by decide +kernel
theorem dX6_isCourt_0 : decode cX6_isCourt 0 = .ok (.aload_n 0, 1) := by decide +kernel
theorem dX6_isCourt_1 : decode cX6_isCourt 1 = .ok (.getfield 15, 3) := by decide +kernel
theorem dX6_isCourt_4 : decode cX6_isCourt 4 = .ok (.bipush 18, 2) := by decide +kernel
theorem dX6_isCourt_6 : decode cX6_isCourt 6 = .ok (.if_icmp .lt 25, 3) := by decide +kernel
theorem dX6_isCourt_9 : decode cX6_isCourt 9 = .ok (.aload_n 0, 1) := by decide +kernel
theorem dX6_isCourt_10 : decode cX6_isCourt 10 = .ok (.invokevirtual 23, 3) := by decide +kernel
theorem dX6_isCourt_13 : decode cX6_isCourt 13 = .ok (.ifCond .eq 18, 3) := by decide +kernel
theorem dX6_isCourt_16 : decode cX6_isCourt 16 = .ok (.aload_n 0, 1) := by decide +kernel
theorem dX6_isCourt_17 : decode cX6_isCourt 17 = .ok (.invokevirtual 27, 3) := by decide +kernel
theorem dX6_isCourt_20 : decode cX6_isCourt 20 = .ok (.aload_n 0, 1) := by decide +kernel
theorem dX6_isCourt_21 : decode cX6_isCourt 21 = .ok (.getfield 15, 3) := by decide +kernel
theorem dX6_isCourt_24 : decode cX6_isCourt 24 = .ok (.if_icmp .ne 7, 3) := by decide +kernel
theorem dX6_isCourt_27 : decode cX6_isCourt 27 = .ok (.iconst 1, 1) := by decide +kernel
theorem dX6_isCourt_28 : decode cX6_isCourt 28 = .ok (.goto 4, 3) := by decide +kernel
theorem dX6_isCourt_31 : decode cX6_isCourt 31 = .ok (.iconst 0, 1) := by decide +kernel
theorem dX6_isCourt_32 : decode cX6_isCourt 32 = .ok (.ireturn, 1) := by decide +kernel
theorem dX6_hasWholeParties_0 : decode cX6_hasWholeParties 0 = .ok (.aload_n 0, 1) := by decide +kernel
theorem dX6_hasWholeParties_1 : decode cX6_hasWholeParties 1 = .ok (.getfield 15, 3) := by decide +kernel
theorem dX6_hasWholeParties_4 : decode cX6_hasWholeParties 4 = .ok (.iconst 1, 1) := by decide +kernel
theorem dX6_hasWholeParties_5 : decode cX6_hasWholeParties 5 = .ok (.iadd, 1) := by decide +kernel
theorem dX6_hasWholeParties_6 : decode cX6_hasWholeParties 6 = .ok (.bipush 11, 2) := by decide +kernel
theorem dX6_hasWholeParties_8 : decode cX6_hasWholeParties 8 = .ok (.isub, 1) := by decide +kernel
theorem dX6_hasWholeParties_9 : decode cX6_hasWholeParties 9 = .ok (.iconst 4, 1) := by decide +kernel
theorem dX6_hasWholeParties_10 : decode cX6_hasWholeParties 10 = .ok (.irem, 1) := by decide +kernel
theorem dX6_hasWholeParties_11 : decode cX6_hasWholeParties 11 = .ok (.ifCond .ne 7, 3) := by decide +kernel
theorem dX6_hasWholeParties_14 : decode cX6_hasWholeParties 14 = .ok (.iconst 1, 1) := by decide +kernel
theorem dX6_hasWholeParties_15 : decode cX6_hasWholeParties 15 = .ok (.goto 4, 3) := by decide +kernel
theorem dX6_hasWholeParties_18 : decode cX6_hasWholeParties 18 = .ok (.iconst 0, 1) := by decide +kernel
theorem dX6_hasWholeParties_19 : decode cX6_hasWholeParties 19 = .ok (.ireturn, 1) := by decide +kernel
theorem dX6_parties_0 : decode cX6_parties 0 = .ok (.aload_n 0, 1) := by decide +kernel
theorem dX6_parties_1 : decode cX6_parties 1 = .ok (.getfield 15, 3) := by decide +kernel
theorem dX6_parties_4 : decode cX6_parties 4 = .ok (.iconst 1, 1) := by decide +kernel
theorem dX6_parties_5 : decode cX6_parties 5 = .ok (.iadd, 1) := by decide +kernel
theorem dX6_parties_6 : decode cX6_parties 6 = .ok (.bipush 11, 2) := by decide +kernel
theorem dX6_parties_8 : decode cX6_parties 8 = .ok (.isub, 1) := by decide +kernel
theorem dX6_parties_9 : decode cX6_parties 9 = .ok (.iconst 4, 1) := by decide +kernel
theorem dX6_parties_10 : decode cX6_parties 10 = .ok (.idiv, 1) := by decide +kernel
theorem dX6_parties_11 : decode cX6_parties 11 = .ok (.ireturn, 1) := by decide +kernel
theorem dX6_digitOf_0 : decode cX6_digitOf 0 = .ok (.aload_n 0, 1) := by decide +kernel
theorem dX6_digitOf_1 : decode cX6_digitOf 1 = .ok (.getfield 11, 3) := by decide +kernel
theorem dX6_digitOf_4 : decode cX6_digitOf 4 = .ok (.bipush 11, 2) := by decide +kernel
theorem dX6_digitOf_6 : decode cX6_digitOf 6 = .ok (.iload_n 1, 1) := by decide +kernel
theorem dX6_digitOf_7 : decode cX6_digitOf 7 = .ok (.iconst 4, 1) := by decide +kernel
theorem dX6_digitOf_8 : decode cX6_digitOf 8 = .ok (.imul, 1) := by decide +kernel
theorem dX6_digitOf_9 : decode cX6_digitOf 9 = .ok (.iadd, 1) := by decide +kernel
theorem dX6_digitOf_10 : decode cX6_digitOf 10 = .ok (.iload_n 2, 1) := by decide +kernel
theorem dX6_digitOf_11 : decode cX6_digitOf 11 = .ok (.iadd, 1) := by decide +kernel
theorem dX6_digitOf_12 : decode cX6_digitOf 12 = .ok (.caload, 1) := by decide +kernel
theorem dX6_digitOf_13 : decode cX6_digitOf 13 = .ok (.bipush 48, 2) := by decide +kernel
theorem dX6_digitOf_15 : decode cX6_digitOf 15 = .ok (.isub, 1) := by decide +kernel
theorem dX6_digitOf_16 : decode cX6_digitOf 16 = .ok (.ireturn, 1) := by decide +kernel
theorem dX6_kindOf_0 : decode cX6_kindOf 0 = .ok (.aload_n 0, 1) := by decide +kernel
theorem dX6_kindOf_1 : decode cX6_kindOf 1 = .ok (.getfield 11, 3) := by decide +kernel
theorem dX6_kindOf_4 : decode cX6_kindOf 4 = .ok (.bipush 11, 2) := by decide +kernel
theorem dX6_kindOf_6 : decode cX6_kindOf 6 = .ok (.iload_n 1, 1) := by decide +kernel
theorem dX6_kindOf_7 : decode cX6_kindOf 7 = .ok (.iconst 4, 1) := by decide +kernel
theorem dX6_kindOf_8 : decode cX6_kindOf 8 = .ok (.imul, 1) := by decide +kernel
theorem dX6_kindOf_9 : decode cX6_kindOf 9 = .ok (.iadd, 1) := by decide +kernel
theorem dX6_kindOf_10 : decode cX6_kindOf 10 = .ok (.caload, 1) := by decide +kernel
theorem dX6_kindOf_11 : decode cX6_kindOf 11 = .ok (.lookupswitch 73 #[(99, 57), (104, 41), (116, 49), (117, 65)], 41) := by decide +kernel
theorem dX6_kindOf_52 : decode cX6_kindOf 52 = .ok (.new 31, 3) := by decide +kernel
theorem dX6_kindOf_55 : decode cX6_kindOf 55 = .ok (.dup, 1) := by decide +kernel
theorem dX6_kindOf_56 : decode cX6_kindOf 56 = .ok (.invokespecial 33, 3) := by decide +kernel
theorem dX6_kindOf_59 : decode cX6_kindOf 59 = .ok (.areturn, 1) := by decide +kernel
theorem dX6_kindOf_60 : decode cX6_kindOf 60 = .ok (.new 34, 3) := by decide +kernel
theorem dX6_kindOf_63 : decode cX6_kindOf 63 = .ok (.dup, 1) := by decide +kernel
theorem dX6_kindOf_64 : decode cX6_kindOf 64 = .ok (.invokespecial 36, 3) := by decide +kernel
theorem dX6_kindOf_67 : decode cX6_kindOf 67 = .ok (.areturn, 1) := by decide +kernel
theorem dX6_kindOf_68 : decode cX6_kindOf 68 = .ok (.new 37, 3) := by decide +kernel
theorem dX6_kindOf_71 : decode cX6_kindOf 71 = .ok (.dup, 1) := by decide +kernel
theorem dX6_kindOf_72 : decode cX6_kindOf 72 = .ok (.invokespecial 39, 3) := by decide +kernel
theorem dX6_kindOf_75 : decode cX6_kindOf 75 = .ok (.areturn, 1) := by decide +kernel
theorem dX6_kindOf_76 : decode cX6_kindOf 76 = .ok (.new 40, 3) := by decide +kernel
theorem dX6_kindOf_79 : decode cX6_kindOf 79 = .ok (.dup, 1) := by decide +kernel
theorem dX6_kindOf_80 : decode cX6_kindOf 80 = .ok (.invokespecial 42, 3) := by decide +kernel
theorem dX6_kindOf_83 : decode cX6_kindOf 83 = .ok (.areturn, 1) := by decide +kernel
theorem dX6_kindOf_84 : decode cX6_kindOf 84 = .ok (.new 43, 3) := by decide +kernel
theorem dX6_kindOf_87 : decode cX6_kindOf 87 = .ok (.dup, 1) := by decide +kernel
theorem dX6_kindOf_88 : decode cX6_kindOf 88 = .ok (.iconst 0, 1) := by decide +kernel
theorem dX6_kindOf_89 : decode cX6_kindOf 89 = .ok (.iconst 0, 1) := by decide +kernel
theorem dX6_kindOf_90 : decode cX6_kindOf 90 = .ok (.invokespecial 45, 3) := by decide +kernel
theorem dX6_kindOf_93 : decode cX6_kindOf 93 = .ok (.areturn, 1) := by decide +kernel
theorem dX6_fits_0 : decode cX6_fits 0 = .ok (.aload_n 0, 1) := by decide +kernel
theorem dX6_fits_1 : decode cX6_fits 1 = .ok (.getfield 11, 3) := by decide +kernel
theorem dX6_fits_4 : decode cX6_fits 4 = .ok (.iload_n 1, 1) := by decide +kernel
theorem dX6_fits_5 : decode cX6_fits 5 = .ok (.caload, 1) := by decide +kernel
theorem dX6_fits_6 : decode cX6_fits 6 = .ok (.istore_n 2, 1) := by decide +kernel
theorem dX6_fits_7 : decode cX6_fits 7 = .ok (.iload_n 1, 1) := by decide +kernel
theorem dX6_fits_8 : decode cX6_fits 8 = .ok (.bipush 10, 2) := by decide +kernel
theorem dX6_fits_10 : decode cX6_fits 10 = .ok (.if_icmp .ge 12, 3) := by decide +kernel
theorem dX6_fits_13 : decode cX6_fits 13 = .ok (.iload_n 2, 1) := by decide +kernel
theorem dX6_fits_14 : decode cX6_fits 14 = .ok (.bipush 48, 2) := by decide +kernel
theorem dX6_fits_16 : decode cX6_fits 16 = .ok (.bipush 57, 2) := by decide +kernel
theorem dX6_fits_18 : decode cX6_fits 18 = .ok (.invokestatic 48, 3) := by decide +kernel
theorem dX6_fits_21 : decode cX6_fits 21 = .ok (.ireturn, 1) := by decide +kernel
theorem dX6_fits_22 : decode cX6_fits 22 = .ok (.iload_n 1, 1) := by decide +kernel
theorem dX6_fits_23 : decode cX6_fits 23 = .ok (.bipush 10, 2) := by decide +kernel
theorem dX6_fits_25 : decode cX6_fits 25 = .ok (.if_icmp .ne 15, 3) := by decide +kernel
theorem dX6_fits_28 : decode cX6_fits 28 = .ok (.iload_n 2, 1) := by decide +kernel
theorem dX6_fits_29 : decode cX6_fits 29 = .ok (.bipush 59, 2) := by decide +kernel
theorem dX6_fits_31 : decode cX6_fits 31 = .ok (.if_icmp .ne 7, 3) := by decide +kernel
theorem dX6_fits_34 : decode cX6_fits 34 = .ok (.iconst 1, 1) := by decide +kernel
theorem dX6_fits_35 : decode cX6_fits 35 = .ok (.goto 4, 3) := by decide +kernel
theorem dX6_fits_38 : decode cX6_fits 38 = .ok (.iconst 0, 1) := by decide +kernel
theorem dX6_fits_39 : decode cX6_fits 39 = .ok (.ireturn, 1) := by decide +kernel
theorem dX6_fits_40 : decode cX6_fits 40 = .ok (.iload_n 1, 1) := by decide +kernel
theorem dX6_fits_41 : decode cX6_fits 41 = .ok (.bipush 30, 2) := by decide +kernel
theorem dX6_fits_43 : decode cX6_fits 43 = .ok (.if_icmp .lt 5, 3) := by decide +kernel
theorem dX6_fits_46 : decode cX6_fits 46 = .ok (.iconst 0, 1) := by decide +kernel
theorem dX6_fits_47 : decode cX6_fits 47 = .ok (.ireturn, 1) := by decide +kernel
theorem dX6_fits_48 : decode cX6_fits 48 = .ok (.iload_n 1, 1) := by decide +kernel
theorem dX6_fits_49 : decode cX6_fits 49 = .ok (.bipush 11, 2) := by decide +kernel
theorem dX6_fits_51 : decode cX6_fits 51 = .ok (.isub, 1) := by decide +kernel
theorem dX6_fits_52 : decode cX6_fits 52 = .ok (.iconst 4, 1) := by decide +kernel
theorem dX6_fits_53 : decode cX6_fits 53 = .ok (.irem, 1) := by decide +kernel
theorem dX6_fits_54 : decode cX6_fits 54 = .ok (.tableswitch 59 0 2 #[26, 41, 50], 26) := by decide +kernel
theorem dX6_fits_80 : decode cX6_fits 80 = .ok (.ldc 52, 2) := by decide +kernel
theorem dX6_fits_82 : decode cX6_fits 82 = .ok (.iload_n 2, 1) := by decide +kernel
theorem dX6_fits_83 : decode cX6_fits 83 = .ok (.invokevirtual 54, 3) := by decide +kernel
theorem dX6_fits_86 : decode cX6_fits 86 = .ok (.ifCond .lt 7, 3) := by decide +kernel
theorem dX6_fits_89 : decode cX6_fits 89 = .ok (.iconst 1, 1) := by decide +kernel
theorem dX6_fits_90 : decode cX6_fits 90 = .ok (.goto 4, 3) := by decide +kernel
theorem dX6_fits_93 : decode cX6_fits 93 = .ok (.iconst 0, 1) := by decide +kernel
theorem dX6_fits_94 : decode cX6_fits 94 = .ok (.ireturn, 1) := by decide +kernel
theorem dX6_fits_95 : decode cX6_fits 95 = .ok (.iload_n 2, 1) := by decide +kernel
theorem dX6_fits_96 : decode cX6_fits 96 = .ok (.bipush 49, 2) := by decide +kernel
theorem dX6_fits_98 : decode cX6_fits 98 = .ok (.bipush 57, 2) := by decide +kernel
theorem dX6_fits_100 : decode cX6_fits 100 = .ok (.invokestatic 48, 3) := by decide +kernel
theorem dX6_fits_103 : decode cX6_fits 103 = .ok (.ireturn, 1) := by decide +kernel
theorem dX6_fits_104 : decode cX6_fits 104 = .ok (.iload_n 2, 1) := by decide +kernel
theorem dX6_fits_105 : decode cX6_fits 105 = .ok (.bipush 48, 2) := by decide +kernel
theorem dX6_fits_107 : decode cX6_fits 107 = .ok (.bipush 57, 2) := by decide +kernel
theorem dX6_fits_109 : decode cX6_fits 109 = .ok (.invokestatic 48, 3) := by decide +kernel
theorem dX6_fits_112 : decode cX6_fits 112 = .ok (.ireturn, 1) := by decide +kernel
theorem dX6_fits_113 : decode cX6_fits 113 = .ok (.iload_n 2, 1) := by decide +kernel
theorem dX6_fits_114 : decode cX6_fits 114 = .ok (.bipush 44, 2) := by decide +kernel
theorem dX6_fits_116 : decode cX6_fits 116 = .ok (.if_icmp .ne 7, 3) := by decide +kernel
theorem dX6_fits_119 : decode cX6_fits 119 = .ok (.iconst 1, 1) := by decide +kernel
theorem dX6_fits_120 : decode cX6_fits 120 = .ok (.goto 4, 3) := by decide +kernel
theorem dX6_fits_123 : decode cX6_fits 123 = .ok (.iconst 0, 1) := by decide +kernel
theorem dX6_fits_124 : decode cX6_fits 124 = .ok (.ireturn, 1) := by decide +kernel
theorem dX7_init_0 : decode cX7_init 0 = .ok (.aload_n 0, 1) := by decide +kernel
theorem dX7_init_1 : decode cX7_init 1 = .ok (.iconst 4, 1) := by decide +kernel
theorem dX7_init_2 : decode cX7_init 2 = .ok (.iconst 4, 1) := by decide +kernel
theorem dX7_init_3 : decode cX7_init 3 = .ok (.invokespecial 5, 3) := by decide +kernel
theorem dX7_init_6 : decode cX7_init 6 = .ok (.return_, 1) := by decide +kernel
theorem dX8_init_0 : decode cX8_init 0 = .ok (.aload_n 0, 1) := by decide +kernel
theorem dX8_init_1 : decode cX8_init 1 = .ok (.invokespecial 3, 3) := by decide +kernel
theorem dX8_init_4 : decode cX8_init 4 = .ok (.aload_n 0, 1) := by decide +kernel
theorem dX8_init_5 : decode cX8_init 5 = .ok (.bipush 10, 2) := by decide +kernel
theorem dX8_init_7 : decode cX8_init 7 = .ok (.newarray .int, 2) := by decide +kernel
theorem dX8_init_9 : decode cX8_init 9 = .ok (.putfield 9, 3) := by decide +kernel
theorem dX8_init_12 : decode cX8_init 12 = .ok (.return_, 1) := by decide +kernel
theorem dX8_heights_0 : decode cX8_heights 0 = .ok (.iconst 0, 1) := by decide +kernel
theorem dX8_heights_1 : decode cX8_heights 1 = .ok (.istore_n 3, 1) := by decide +kernel
theorem dX8_heights_2 : decode cX8_heights 2 = .ok (.iconst 1, 1) := by decide +kernel
theorem dX8_heights_3 : decode cX8_heights 3 = .ok (.istore 4, 2) := by decide +kernel
theorem dX8_heights_5 : decode cX8_heights 5 = .ok (.iload 4, 2) := by decide +kernel
theorem dX8_heights_7 : decode cX8_heights 7 = .ok (.bipush 9, 2) := by decide +kernel
theorem dX8_heights_9 : decode cX8_heights 9 = .ok (.if_icmp .gt 29, 3) := by decide +kernel
theorem dX8_heights_12 : decode cX8_heights 12 = .ok (.aload_n 0, 1) := by decide +kernel
theorem dX8_heights_13 : decode cX8_heights 13 = .ok (.aload_n 1, 1) := by decide +kernel
theorem dX8_heights_14 : decode cX8_heights 14 = .ok (.iload_n 2, 1) := by decide +kernel
theorem dX8_heights_15 : decode cX8_heights 15 = .ok (.iload 4, 2) := by decide +kernel
theorem dX8_heights_17 : decode cX8_heights 17 = .ok (.invokevirtual 15, 3) := by decide +kernel
theorem dX8_heights_20 : decode cX8_heights 20 = .ok (.ifCond .eq 12, 3) := by decide +kernel
theorem dX8_heights_23 : decode cX8_heights 23 = .ok (.iload_n 3, 1) := by decide +kernel
theorem dX8_heights_24 : decode cX8_heights 24 = .ok (.iconst 1, 1) := by decide +kernel
theorem dX8_heights_25 : decode cX8_heights 25 = .ok (.iload 4, 2) := by decide +kernel
theorem dX8_heights_27 : decode cX8_heights 27 = .ok (.iconst 1, 1) := by decide +kernel
theorem dX8_heights_28 : decode cX8_heights 28 = .ok (.isub, 1) := by decide +kernel
theorem dX8_heights_29 : decode cX8_heights 29 = .ok (.ishl, 1) := by decide +kernel
theorem dX8_heights_30 : decode cX8_heights 30 = .ok (.ior, 1) := by decide +kernel
theorem dX8_heights_31 : decode cX8_heights 31 = .ok (.istore_n 3, 1) := by decide +kernel
theorem dX8_heights_32 : decode cX8_heights 32 = .ok (.iinc 4 1, 3) := by decide +kernel
theorem dX8_heights_35 : decode cX8_heights 35 = .ok (.goto (-30), 3) := by decide +kernel
theorem dX8_heights_38 : decode cX8_heights 38 = .ok (.iload_n 3, 1) := by decide +kernel
theorem dX8_heights_39 : decode cX8_heights 39 = .ok (.ireturn, 1) := by decide +kernel
theorem dX8_isAsSeen_0 : decode cX8_isAsSeen 0 = .ok (.iconst 0, 1) := by decide +kernel
theorem dX8_isAsSeen_1 : decode cX8_isAsSeen 1 = .ok (.istore 4, 2) := by decide +kernel
theorem dX8_isAsSeen_3 : decode cX8_isAsSeen 3 = .ok (.iload 4, 2) := by decide +kernel
theorem dX8_isAsSeen_5 : decode cX8_isAsSeen 5 = .ok (.aload_n 1, 1) := by decide +kernel
theorem dX8_isAsSeen_6 : decode cX8_isAsSeen 6 = .ok (.getfield 19, 3) := by decide +kernel
theorem dX8_isAsSeen_9 : decode cX8_isAsSeen 9 = .ok (.if_icmp .ge 68, 3) := by decide +kernel
theorem dX8_isAsSeen_12 : decode cX8_isAsSeen 12 = .ok (.aload_n 1, 1) := by decide +kernel
theorem dX8_isAsSeen_13 : decode cX8_isAsSeen 13 = .ok (.getfield 25, 3) := by decide +kernel
theorem dX8_isAsSeen_16 : decode cX8_isAsSeen 16 = .ok (.iload 4, 2) := by decide +kernel
theorem dX8_isAsSeen_18 : decode cX8_isAsSeen 18 = .ok (.iaload, 1) := by decide +kernel
theorem dX8_isAsSeen_19 : decode cX8_isAsSeen 19 = .ok (.iload_n 2, 1) := by decide +kernel
theorem dX8_isAsSeen_20 : decode cX8_isAsSeen 20 = .ok (.if_icmp .eq 6, 3) := by decide +kernel
theorem dX8_isAsSeen_23 : decode cX8_isAsSeen 23 = .ok (.goto 48, 3) := by decide +kernel
theorem dX8_isAsSeen_26 : decode cX8_isAsSeen 26 = .ok (.aload_n 1, 1) := by decide +kernel
theorem dX8_isAsSeen_27 : decode cX8_isAsSeen 27 = .ok (.iload_n 2, 1) := by decide +kernel
theorem dX8_isAsSeen_28 : decode cX8_isAsSeen 28 = .ok (.iload_n 3, 1) := by decide +kernel
theorem dX8_isAsSeen_29 : decode cX8_isAsSeen 29 = .ok (.aload_n 1, 1) := by decide +kernel
theorem dX8_isAsSeen_30 : decode cX8_isAsSeen 30 = .ok (.getfield 28, 3) := by decide +kernel
theorem dX8_isAsSeen_33 : decode cX8_isAsSeen 33 = .ok (.iload_n 2, 1) := by decide +kernel
theorem dX8_isAsSeen_34 : decode cX8_isAsSeen 34 = .ok (.iaload, 1) := by decide +kernel
theorem dX8_isAsSeen_35 : decode cX8_isAsSeen 35 = .ok (.aload_n 1, 1) := by decide +kernel
theorem dX8_isAsSeen_36 : decode cX8_isAsSeen 36 = .ok (.getfield 31, 3) := by decide +kernel
theorem dX8_isAsSeen_39 : decode cX8_isAsSeen 39 = .ok (.iload 4, 2) := by decide +kernel
theorem dX8_isAsSeen_41 : decode cX8_isAsSeen 41 = .ok (.iaload, 1) := by decide +kernel
theorem dX8_isAsSeen_42 : decode cX8_isAsSeen 42 = .ok (.invokevirtual 34, 3) := by decide +kernel
theorem dX8_isAsSeen_45 : decode cX8_isAsSeen 45 = .ok (.istore 5, 2) := by decide +kernel
theorem dX8_isAsSeen_47 : decode cX8_isAsSeen 47 = .ok (.iload 5, 2) := by decide +kernel
theorem dX8_isAsSeen_49 : decode cX8_isAsSeen 49 = .ok (.aload_n 1, 1) := by decide +kernel
theorem dX8_isAsSeen_50 : decode cX8_isAsSeen 50 = .ok (.getfield 38, 3) := by decide +kernel
theorem dX8_isAsSeen_53 : decode cX8_isAsSeen 53 = .ok (.iload 4, 2) := by decide +kernel
theorem dX8_isAsSeen_55 : decode cX8_isAsSeen 55 = .ok (.iaload, 1) := by decide +kernel
theorem dX8_isAsSeen_56 : decode cX8_isAsSeen 56 = .ok (.ishr, 1) := by decide +kernel
theorem dX8_isAsSeen_57 : decode cX8_isAsSeen 57 = .ok (.iconst 1, 1) := by decide +kernel
theorem dX8_isAsSeen_58 : decode cX8_isAsSeen 58 = .ok (.iand, 1) := by decide +kernel
theorem dX8_isAsSeen_59 : decode cX8_isAsSeen 59 = .ok (.aload_n 1, 1) := by decide +kernel
theorem dX8_isAsSeen_60 : decode cX8_isAsSeen 60 = .ok (.getfield 41, 3) := by decide +kernel
theorem dX8_isAsSeen_63 : decode cX8_isAsSeen 63 = .ok (.iload 4, 2) := by decide +kernel
theorem dX8_isAsSeen_65 : decode cX8_isAsSeen 65 = .ok (.iaload, 1) := by decide +kernel
theorem dX8_isAsSeen_66 : decode cX8_isAsSeen 66 = .ok (.if_icmp .eq 5, 3) := by decide +kernel
theorem dX8_isAsSeen_69 : decode cX8_isAsSeen 69 = .ok (.iconst 0, 1) := by decide +kernel
theorem dX8_isAsSeen_70 : decode cX8_isAsSeen 70 = .ok (.ireturn, 1) := by decide +kernel
theorem dX8_isAsSeen_71 : decode cX8_isAsSeen 71 = .ok (.iinc 4 1, 3) := by decide +kernel
theorem dX8_isAsSeen_74 : decode cX8_isAsSeen 74 = .ok (.goto (-71), 3) := by decide +kernel
theorem dX8_isAsSeen_77 : decode cX8_isAsSeen 77 = .ok (.iconst 1, 1) := by decide +kernel
theorem dX8_isAsSeen_78 : decode cX8_isAsSeen 78 = .ok (.ireturn, 1) := by decide +kernel
theorem dX8_look_0 : decode cX8_look 0 = .ok (.aload_n 0, 1) := by decide +kernel
theorem dX8_look_1 : decode cX8_look 1 = .ok (.aload_n 1, 1) := by decide +kernel
theorem dX8_look_2 : decode cX8_look 2 = .ok (.iload_n 2, 1) := by decide +kernel
theorem dX8_look_3 : decode cX8_look 3 = .ok (.invokevirtual 44, 3) := by decide +kernel
theorem dX8_look_6 : decode cX8_look 6 = .ok (.istore_n 3, 1) := by decide +kernel
theorem dX8_look_7 : decode cX8_look 7 = .ok (.iload_n 3, 1) := by decide +kernel
theorem dX8_look_8 : decode cX8_look 8 = .ok (.ifCond .ne 5, 3) := by decide +kernel
theorem dX8_look_11 : decode cX8_look 11 = .ok (.iconst (-1), 1) := by decide +kernel
theorem dX8_look_12 : decode cX8_look 12 = .ok (.ireturn, 1) := by decide +kernel
theorem dX8_look_13 : decode cX8_look 13 = .ok (.iconst (-1), 1) := by decide +kernel
theorem dX8_look_14 : decode cX8_look 14 = .ok (.istore 4, 2) := by decide +kernel
theorem dX8_look_16 : decode cX8_look 16 = .ok (.bipush 10, 2) := by decide +kernel
theorem dX8_look_18 : decode cX8_look 18 = .ok (.istore 5, 2) := by decide +kernel
theorem dX8_look_20 : decode cX8_look 20 = .ok (.iconst 0, 1) := by decide +kernel
theorem dX8_look_21 : decode cX8_look 21 = .ok (.istore 6, 2) := by decide +kernel
theorem dX8_look_23 : decode cX8_look 23 = .ok (.iload 6, 2) := by decide +kernel
theorem dX8_look_25 : decode cX8_look 25 = .ok (.bipush 13, 2) := by decide +kernel
theorem dX8_look_27 : decode cX8_look 27 = .ok (.if_icmp .ge 93, 3) := by decide +kernel
theorem dX8_look_30 : decode cX8_look 30 = .ok (.iconst 1, 1) := by decide +kernel
theorem dX8_look_31 : decode cX8_look 31 = .ok (.istore 7, 2) := by decide +kernel
theorem dX8_look_33 : decode cX8_look 33 = .ok (.iload 7, 2) := by decide +kernel
theorem dX8_look_35 : decode cX8_look 35 = .ok (.bipush 9, 2) := by decide +kernel
theorem dX8_look_37 : decode cX8_look 37 = .ok (.if_icmp .gt 31, 3) := by decide +kernel
theorem dX8_look_40 : decode cX8_look 40 = .ok (.aload_n 0, 1) := by decide +kernel
theorem dX8_look_41 : decode cX8_look 41 = .ok (.getfield 9, 3) := by decide +kernel
theorem dX8_look_44 : decode cX8_look 44 = .ok (.iload 7, 2) := by decide +kernel
theorem dX8_look_46 : decode cX8_look 46 = .ok (.aload_n 1, 1) := by decide +kernel
theorem dX8_look_47 : decode cX8_look 47 = .ok (.iload_n 2, 1) := by decide +kernel
theorem dX8_look_48 : decode cX8_look 48 = .ok (.iload 7, 2) := by decide +kernel
theorem dX8_look_50 : decode cX8_look 50 = .ok (.aload_n 1, 1) := by decide +kernel
theorem dX8_look_51 : decode cX8_look 51 = .ok (.getfield 28, 3) := by decide +kernel
theorem dX8_look_54 : decode cX8_look 54 = .ok (.iload_n 2, 1) := by decide +kernel
theorem dX8_look_55 : decode cX8_look 55 = .ok (.iaload, 1) := by decide +kernel
theorem dX8_look_56 : decode cX8_look 56 = .ok (.iload 6, 2) := by decide +kernel
theorem dX8_look_58 : decode cX8_look 58 = .ok (.invokevirtual 34, 3) := by decide +kernel
theorem dX8_look_61 : decode cX8_look 61 = .ok (.iastore, 1) := by decide +kernel
theorem dX8_look_62 : decode cX8_look 62 = .ok (.iinc 7 1, 3) := by decide +kernel
theorem dX8_look_65 : decode cX8_look 65 = .ok (.goto (-32), 3) := by decide +kernel
theorem dX8_look_68 : decode cX8_look 68 = .ok (.iconst 0, 1) := by decide +kernel
theorem dX8_look_69 : decode cX8_look 69 = .ok (.istore 7, 2) := by decide +kernel
theorem dX8_look_71 : decode cX8_look 71 = .ok (.iload 7, 2) := by decide +kernel
theorem dX8_look_73 : decode cX8_look 73 = .ok (.bipush 10, 2) := by decide +kernel
theorem dX8_look_75 : decode cX8_look 75 = .ok (.if_icmp .ge 39, 3) := by decide +kernel
theorem dX8_look_78 : decode cX8_look 78 = .ok (.aload_n 0, 1) := by decide +kernel
theorem dX8_look_79 : decode cX8_look 79 = .ok (.iload_n 3, 1) := by decide +kernel
theorem dX8_look_80 : decode cX8_look 80 = .ok (.iload 7, 2) := by decide +kernel
theorem dX8_look_82 : decode cX8_look 82 = .ok (.invokevirtual 48, 3) := by decide +kernel
theorem dX8_look_85 : decode cX8_look 85 = .ok (.istore 8, 2) := by decide +kernel
theorem dX8_look_87 : decode cX8_look 87 = .ok (.iload 8, 2) := by decide +kernel
theorem dX8_look_89 : decode cX8_look 89 = .ok (.iload 5, 2) := by decide +kernel
theorem dX8_look_91 : decode cX8_look 91 = .ok (.if_icmp .ge 17, 3) := by decide +kernel
theorem dX8_look_94 : decode cX8_look 94 = .ok (.iload 8, 2) := by decide +kernel
theorem dX8_look_96 : decode cX8_look 96 = .ok (.istore 5, 2) := by decide +kernel
theorem dX8_look_98 : decode cX8_look 98 = .ok (.iload 6, 2) := by decide +kernel
theorem dX8_look_100 : decode cX8_look 100 = .ok (.bipush 10, 2) := by decide +kernel
theorem dX8_look_102 : decode cX8_look 102 = .ok (.imul, 1) := by decide +kernel
theorem dX8_look_103 : decode cX8_look 103 = .ok (.iload 7, 2) := by decide +kernel
theorem dX8_look_105 : decode cX8_look 105 = .ok (.iadd, 1) := by decide +kernel
theorem dX8_look_106 : decode cX8_look 106 = .ok (.istore 4, 2) := by decide +kernel
theorem dX8_look_108 : decode cX8_look 108 = .ok (.iinc 7 1, 3) := by decide +kernel
theorem dX8_look_111 : decode cX8_look 111 = .ok (.goto (-40), 3) := by decide +kernel
theorem dX8_look_114 : decode cX8_look 114 = .ok (.iinc 6 1, 3) := by decide +kernel
theorem dX8_look_117 : decode cX8_look 117 = .ok (.goto (-94), 3) := by decide +kernel
theorem dX8_look_120 : decode cX8_look 120 = .ok (.iload 4, 2) := by decide +kernel
theorem dX8_look_122 : decode cX8_look 122 = .ok (.ireturn, 1) := by decide +kernel
theorem dX8_leftAtWorst_0 : decode cX8_leftAtWorst 0 = .ok (.iconst 0, 1) := by decide +kernel
theorem dX8_leftAtWorst_1 : decode cX8_leftAtWorst 1 = .ok (.istore_n 3, 1) := by decide +kernel
theorem dX8_leftAtWorst_2 : decode cX8_leftAtWorst 2 = .ok (.iconst 1, 1) := by decide +kernel
theorem dX8_leftAtWorst_3 : decode cX8_leftAtWorst 3 = .ok (.istore 4, 2) := by decide +kernel
theorem dX8_leftAtWorst_5 : decode cX8_leftAtWorst 5 = .ok (.iload 4, 2) := by decide +kernel
theorem dX8_leftAtWorst_7 : decode cX8_leftAtWorst 7 = .ok (.bipush 9, 2) := by decide +kernel
theorem dX8_leftAtWorst_9 : decode cX8_leftAtWorst 9 = .ok (.if_icmp .gt 30, 3) := by decide +kernel
theorem dX8_leftAtWorst_12 : decode cX8_leftAtWorst 12 = .ok (.iload_n 3, 1) := by decide +kernel
theorem dX8_leftAtWorst_13 : decode cX8_leftAtWorst 13 = .ok (.iload_n 1, 1) := by decide +kernel
theorem dX8_leftAtWorst_14 : decode cX8_leftAtWorst 14 = .ok (.iload 4, 2) := by decide +kernel
theorem dX8_leftAtWorst_16 : decode cX8_leftAtWorst 16 = .ok (.iconst 1, 1) := by decide +kernel
theorem dX8_leftAtWorst_17 : decode cX8_leftAtWorst 17 = .ok (.isub, 1) := by decide +kernel
theorem dX8_leftAtWorst_18 : decode cX8_leftAtWorst 18 = .ok (.ishr, 1) := by decide +kernel
theorem dX8_leftAtWorst_19 : decode cX8_leftAtWorst 19 = .ok (.aload_n 0, 1) := by decide +kernel
theorem dX8_leftAtWorst_20 : decode cX8_leftAtWorst 20 = .ok (.getfield 9, 3) := by decide +kernel
theorem dX8_leftAtWorst_23 : decode cX8_leftAtWorst 23 = .ok (.iload 4, 2) := by decide +kernel
theorem dX8_leftAtWorst_25 : decode cX8_leftAtWorst 25 = .ok (.iaload, 1) := by decide +kernel
theorem dX8_leftAtWorst_26 : decode cX8_leftAtWorst 26 = .ok (.iload_n 2, 1) := by decide +kernel
theorem dX8_leftAtWorst_27 : decode cX8_leftAtWorst 27 = .ok (.ishr, 1) := by decide +kernel
theorem dX8_leftAtWorst_28 : decode cX8_leftAtWorst 28 = .ok (.iand, 1) := by decide +kernel
theorem dX8_leftAtWorst_29 : decode cX8_leftAtWorst 29 = .ok (.iconst 1, 1) := by decide +kernel
theorem dX8_leftAtWorst_30 : decode cX8_leftAtWorst 30 = .ok (.iand, 1) := by decide +kernel
theorem dX8_leftAtWorst_31 : decode cX8_leftAtWorst 31 = .ok (.iadd, 1) := by decide +kernel
theorem dX8_leftAtWorst_32 : decode cX8_leftAtWorst 32 = .ok (.istore_n 3, 1) := by decide +kernel
theorem dX8_leftAtWorst_33 : decode cX8_leftAtWorst 33 = .ok (.iinc 4 1, 3) := by decide +kernel
theorem dX8_leftAtWorst_36 : decode cX8_leftAtWorst 36 = .ok (.goto (-31), 3) := by decide +kernel
theorem dX8_leftAtWorst_39 : decode cX8_leftAtWorst 39 = .ok (.iload_n 3, 1) := by decide +kernel
theorem dX8_leftAtWorst_40 : decode cX8_leftAtWorst 40 = .ok (.iload_n 1, 1) := by decide +kernel
theorem dX8_leftAtWorst_41 : decode cX8_leftAtWorst 41 = .ok (.invokestatic 52, 3) := by decide +kernel
theorem dX8_leftAtWorst_44 : decode cX8_leftAtWorst 44 = .ok (.iload_n 3, 1) := by decide +kernel
theorem dX8_leftAtWorst_45 : decode cX8_leftAtWorst 45 = .ok (.isub, 1) := by decide +kernel
theorem dX8_leftAtWorst_46 : decode cX8_leftAtWorst 46 = .ok (.invokestatic 58, 3) := by decide +kernel
theorem dX8_leftAtWorst_49 : decode cX8_leftAtWorst 49 = .ok (.ireturn, 1) := by decide +kernel
theorem dX9_init_0 : decode cX9_init 0 = .ok (.aload_n 0, 1) := by decide +kernel
theorem dX9_init_1 : decode cX9_init 1 = .ok (.invokespecial 3, 3) := by decide +kernel
theorem dX9_init_4 : decode cX9_init 4 = .ok (.return_, 1) := by decide +kernel
theorem dX9_hold_0 : decode cX9_hold 0 = .ok (.aload_n 0, 1) := by decide +kernel
theorem dX9_hold_1 : decode cX9_hold 1 = .ok (.iload_n 3, 1) := by decide +kernel
theorem dX9_hold_2 : decode cX9_hold 2 = .ok (.i2l, 1) := by decide +kernel
theorem dX9_hold_3 : decode cX9_hold 3 = .ok (.putfield 9, 3) := by decide +kernel
theorem dX9_hold_6 : decode cX9_hold 6 = .ok (.aload_n 0, 1) := by decide +kernel
theorem dX9_hold_7 : decode cX9_hold 7 = .ok (.iconst 0, 1) := by decide +kernel
theorem dX9_hold_8 : decode cX9_hold 8 = .ok (.putfield 15, 3) := by decide +kernel
theorem dX9_hold_11 : decode cX9_hold 11 = .ok (.aload_n 0, 1) := by decide +kernel
theorem dX9_hold_12 : decode cX9_hold 12 = .ok (.iconst 0, 1) := by decide +kernel
theorem dX9_hold_13 : decode cX9_hold 13 = .ok (.putfield 19, 3) := by decide +kernel
theorem dX9_hold_16 : decode cX9_hold 16 = .ok (.iconst 0, 1) := by decide +kernel
theorem dX9_hold_17 : decode cX9_hold 17 = .ok (.istore 4, 2) := by decide +kernel
theorem dX9_hold_19 : decode cX9_hold 19 = .ok (.iload 4, 2) := by decide +kernel
theorem dX9_hold_21 : decode cX9_hold 21 = .ok (.iload_n 2, 1) := by decide +kernel
theorem dX9_hold_22 : decode cX9_hold 22 = .ok (.if_icmp .ge 89, 3) := by decide +kernel
theorem dX9_hold_25 : decode cX9_hold 25 = .ok (.aload_n 0, 1) := by decide +kernel
theorem dX9_hold_26 : decode cX9_hold 26 = .ok (.aload_n 1, 1) := by decide +kernel
theorem dX9_hold_27 : decode cX9_hold 27 = .ok (.getfield 22, 3) := by decide +kernel
theorem dX9_hold_30 : decode cX9_hold 30 = .ok (.invokevirtual 27, 3) := by decide +kernel
theorem dX9_hold_33 : decode cX9_hold 33 = .ok (.istore 5, 2) := by decide +kernel
theorem dX9_hold_35 : decode cX9_hold 35 = .ok (.aload_n 0, 1) := by decide +kernel
theorem dX9_hold_36 : decode cX9_hold 36 = .ok (.aload_n 1, 1) := by decide +kernel
theorem dX9_hold_37 : decode cX9_hold 37 = .ok (.getfield 22, 3) := by decide +kernel
theorem dX9_hold_40 : decode cX9_hold 40 = .ok (.invokevirtual 27, 3) := by decide +kernel
theorem dX9_hold_43 : decode cX9_hold 43 = .ok (.istore 6, 2) := by decide +kernel
theorem dX9_hold_45 : decode cX9_hold 45 = .ok (.aload_n 0, 1) := by decide +kernel
theorem dX9_hold_46 : decode cX9_hold 46 = .ok (.bipush 13, 2) := by decide +kernel
theorem dX9_hold_48 : decode cX9_hold 48 = .ok (.invokevirtual 27, 3) := by decide +kernel
theorem dX9_hold_51 : decode cX9_hold 51 = .ok (.istore 7, 2) := by decide +kernel
theorem dX9_hold_53 : decode cX9_hold 53 = .ok (.iload 5, 2) := by decide +kernel
theorem dX9_hold_55 : decode cX9_hold 55 = .ok (.iload 6, 2) := by decide +kernel
theorem dX9_hold_57 : decode cX9_hold 57 = .ok (.if_icmp .ne 6, 3) := by decide +kernel
theorem dX9_hold_60 : decode cX9_hold 60 = .ok (.goto 45, 3) := by decide +kernel
theorem dX9_hold_63 : decode cX9_hold 63 = .ok (.aload_n 1, 1) := by decide +kernel
theorem dX9_hold_64 : decode cX9_hold 64 = .ok (.iload 5, 2) := by decide +kernel
theorem dX9_hold_66 : decode cX9_hold 66 = .ok (.iload 6, 2) := by decide +kernel
theorem dX9_hold_68 : decode cX9_hold 68 = .ok (.iload 7, 2) := by decide +kernel
theorem dX9_hold_70 : decode cX9_hold 70 = .ok (.invokevirtual 31, 3) := by decide +kernel
theorem dX9_hold_73 : decode cX9_hold 73 = .ok (.istore 8, 2) := by decide +kernel
theorem dX9_hold_75 : decode cX9_hold 75 = .ok (.iload 8, 2) := by decide +kernel
theorem dX9_hold_77 : decode cX9_hold 77 = .ok (.ifCond .le 13, 3) := by decide +kernel
theorem dX9_hold_80 : decode cX9_hold 80 = .ok (.aload_n 0, 1) := by decide +kernel
theorem dX9_hold_81 : decode cX9_hold 81 = .ok (.dup, 1) := by decide +kernel
theorem dX9_hold_82 : decode cX9_hold 82 = .ok (.getfield 15, 3) := by decide +kernel
theorem dX9_hold_85 : decode cX9_hold 85 = .ok (.iconst 1, 1) := by decide +kernel
theorem dX9_hold_86 : decode cX9_hold 86 = .ok (.iadd, 1) := by decide +kernel
theorem dX9_hold_87 : decode cX9_hold 87 = .ok (.putfield 15, 3) := by decide +kernel
theorem dX9_hold_90 : decode cX9_hold 90 = .ok (.iload 8, 2) := by decide +kernel
theorem dX9_hold_92 : decode cX9_hold 92 = .ok (.ifCond .ne 13, 3) := by decide +kernel
theorem dX9_hold_95 : decode cX9_hold 95 = .ok (.aload_n 0, 1) := by decide +kernel
theorem dX9_hold_96 : decode cX9_hold 96 = .ok (.dup, 1) := by decide +kernel
theorem dX9_hold_97 : decode cX9_hold 97 = .ok (.getfield 19, 3) := by decide +kernel
theorem dX9_hold_100 : decode cX9_hold 100 = .ok (.iconst 1, 1) := by decide +kernel
theorem dX9_hold_101 : decode cX9_hold 101 = .ok (.iadd, 1) := by decide +kernel
theorem dX9_hold_102 : decode cX9_hold 102 = .ok (.putfield 19, 3) := by decide +kernel
theorem dX9_hold_105 : decode cX9_hold 105 = .ok (.iinc 4 1, 3) := by decide +kernel
theorem dX9_hold_108 : decode cX9_hold 108 = .ok (.goto (-89), 3) := by decide +kernel
theorem dX9_hold_111 : decode cX9_hold 111 = .ok (.return_, 1) := by decide +kernel
theorem dX9_draw_0 : decode cX9_draw 0 = .ok (.aload_n 0, 1) := by decide +kernel
theorem dX9_draw_1 : decode cX9_draw 1 = .ok (.aload_n 0, 1) := by decide +kernel
theorem dX9_draw_2 : decode cX9_draw 2 = .ok (.getfield 9, 3) := by decide +kernel
theorem dX9_draw_5 : decode cX9_draw 5 = .ok (.ldc2_w 35, 3) := by decide +kernel
theorem dX9_draw_8 : decode cX9_draw 8 = .ok (.lmul, 1) := by decide +kernel
theorem dX9_draw_9 : decode cX9_draw 9 = .ok (.ldc2_w 37, 3) := by decide +kernel
theorem dX9_draw_12 : decode cX9_draw 12 = .ok (.ladd, 1) := by decide +kernel
theorem dX9_draw_13 : decode cX9_draw 13 = .ok (.ldc2_w 39, 3) := by decide +kernel
theorem dX9_draw_16 : decode cX9_draw 16 = .ok (.lrem, 1) := by decide +kernel
theorem dX9_draw_17 : decode cX9_draw 17 = .ok (.putfield 9, 3) := by decide +kernel
theorem dX9_draw_20 : decode cX9_draw 20 = .ok (.iload_n 1, 1) := by decide +kernel
theorem dX9_draw_21 : decode cX9_draw 21 = .ok (.iconst 1, 1) := by decide +kernel
theorem dX9_draw_22 : decode cX9_draw 22 = .ok (.if_icmp .ge 7, 3) := by decide +kernel
theorem dX9_draw_25 : decode cX9_draw 25 = .ok (.iconst 0, 1) := by decide +kernel
theorem dX9_draw_26 : decode cX9_draw 26 = .ok (.goto 15, 3) := by decide +kernel
theorem dX9_draw_29 : decode cX9_draw 29 = .ok (.aload_n 0, 1) := by decide +kernel
theorem dX9_draw_30 : decode cX9_draw 30 = .ok (.getfield 9, 3) := by decide +kernel
theorem dX9_draw_33 : decode cX9_draw 33 = .ok (.ldc2_w 41, 3) := by decide +kernel
theorem dX9_draw_36 : decode cX9_draw 36 = .ok (.ldiv, 1) := by decide +kernel
theorem dX9_draw_37 : decode cX9_draw 37 = .ok (.iload_n 1, 1) := by decide +kernel
theorem dX9_draw_38 : decode cX9_draw 38 = .ok (.i2l, 1) := by decide +kernel
theorem dX9_draw_39 : decode cX9_draw 39 = .ok (.lrem, 1) := by decide +kernel
theorem dX9_draw_40 : decode cX9_draw 40 = .ok (.l2i, 1) := by decide +kernel
theorem dX9_draw_41 : decode cX9_draw 41 = .ok (.ireturn, 1) := by decide +kernel
theorem dX10_init_0 : decode cX10_init 0 = .ok (.aload_n 0, 1) := by decide +kernel
theorem dX10_init_1 : decode cX10_init 1 = .ok (.iconst 2, 1) := by decide +kernel
theorem dX10_init_2 : decode cX10_init 2 = .ok (.iconst 0, 1) := by decide +kernel
theorem dX10_init_3 : decode cX10_init 3 = .ok (.invokespecial 3, 3) := by decide +kernel
theorem dX10_init_6 : decode cX10_init 6 = .ok (.return_, 1) := by decide +kernel
theorem dX10_shade_0 : decode cX10_shade 0 = .ok (.aload_n 0, 1) := by decide +kernel
theorem dX10_shade_1 : decode cX10_shade 1 = .ok (.iload_n 1, 1) := by decide +kernel
theorem dX10_shade_2 : decode cX10_shade 2 = .ok (.iload_n 3, 1) := by decide +kernel
theorem dX10_shade_3 : decode cX10_shade 3 = .ok (.invokevirtual 9, 3) := by decide +kernel
theorem dX10_shade_6 : decode cX10_shade 6 = .ok (.istore 4, 2) := by decide +kernel
theorem dX10_shade_8 : decode cX10_shade 8 = .ok (.iload_n 3, 1) := by decide +kernel
theorem dX10_shade_9 : decode cX10_shade 9 = .ok (.bipush 6, 2) := by decide +kernel
theorem dX10_shade_11 : decode cX10_shade 11 = .ok (.if_icmp .ge 10, 3) := by decide +kernel
theorem dX10_shade_14 : decode cX10_shade 14 = .ok (.iload_n 2, 1) := by decide +kernel
theorem dX10_shade_15 : decode cX10_shade 15 = .ok (.iload 4, 2) := by decide +kernel
theorem dX10_shade_17 : decode cX10_shade 17 = .ok (.isub, 1) := by decide +kernel
theorem dX10_shade_18 : decode cX10_shade 18 = .ok (.goto 7, 3) := by decide +kernel
theorem dX10_shade_21 : decode cX10_shade 21 = .ok (.iload_n 2, 1) := by decide +kernel
theorem dX10_shade_22 : decode cX10_shade 22 = .ok (.iload 4, 2) := by decide +kernel
theorem dX10_shade_24 : decode cX10_shade 24 = .ok (.iadd, 1) := by decide +kernel
theorem dX10_shade_25 : decode cX10_shade 25 = .ok (.istore 5, 2) := by decide +kernel
theorem dX10_shade_27 : decode cX10_shade 27 = .ok (.iload 4, 2) := by decide +kernel
theorem dX10_shade_29 : decode cX10_shade 29 = .ok (.ifCond .le 18, 3) := by decide +kernel
theorem dX10_shade_32 : decode cX10_shade 32 = .ok (.iload 5, 2) := by decide +kernel
theorem dX10_shade_34 : decode cX10_shade 34 = .ok (.invokestatic 15, 3) := by decide +kernel
theorem dX10_shade_37 : decode cX10_shade 37 = .ok (.ifCond .eq 10, 3) := by decide +kernel
theorem dX10_shade_40 : decode cX10_shade 40 = .ok (.iconst 1, 1) := by decide +kernel
theorem dX10_shade_41 : decode cX10_shade 41 = .ok (.iload 5, 2) := by decide +kernel
theorem dX10_shade_43 : decode cX10_shade 43 = .ok (.ishl, 1) := by decide +kernel
theorem dX10_shade_44 : decode cX10_shade 44 = .ok (.goto 4, 3) := by decide +kernel
theorem dX10_shade_47 : decode cX10_shade 47 = .ok (.iconst 0, 1) := by decide +kernel
theorem dX10_shade_48 : decode cX10_shade 48 = .ok (.ireturn, 1) := by decide +kernel
theorem dX11_init_0 : decode cX11_init 0 = .ok (.aload_n 0, 1) := by decide +kernel
theorem dX11_init_1 : decode cX11_init 1 = .ok (.invokespecial 1, 3) := by decide +kernel
theorem dX11_init_4 : decode cX11_init 4 = .ok (.aload_n 0, 1) := by decide +kernel
theorem dX11_init_5 : decode cX11_init 5 = .ok (.new 7, 3) := by decide +kernel
theorem dX11_init_8 : decode cX11_init 8 = .ok (.dup, 1) := by decide +kernel
theorem dX11_init_9 : decode cX11_init 9 = .ok (.invokespecial 9, 3) := by decide +kernel
theorem dX11_init_12 : decode cX11_init 12 = .ok (.putfield 10, 3) := by decide +kernel
theorem dX11_init_15 : decode cX11_init 15 = .ok (.aload_n 0, 1) := by decide +kernel
theorem dX11_init_16 : decode cX11_init 16 = .ok (.new 16, 3) := by decide +kernel
theorem dX11_init_19 : decode cX11_init 19 = .ok (.dup, 1) := by decide +kernel
theorem dX11_init_20 : decode cX11_init 20 = .ok (.invokespecial 18, 3) := by decide +kernel
theorem dX11_init_23 : decode cX11_init 23 = .ok (.putfield 19, 3) := by decide +kernel
theorem dX11_init_26 : decode cX11_init 26 = .ok (.aload_n 0, 1) := by decide +kernel
theorem dX11_init_27 : decode cX11_init 27 = .ok (.new 16, 3) := by decide +kernel
theorem dX11_init_30 : decode cX11_init 30 = .ok (.dup, 1) := by decide +kernel
theorem dX11_init_31 : decode cX11_init 31 = .ok (.invokespecial 18, 3) := by decide +kernel
theorem dX11_init_34 : decode cX11_init 34 = .ok (.putfield 23, 3) := by decide +kernel
theorem dX11_init_37 : decode cX11_init 37 = .ok (.aload_n 0, 1) := by decide +kernel
theorem dX11_init_38 : decode cX11_init 38 = .ok (.new 26, 3) := by decide +kernel
theorem dX11_init_41 : decode cX11_init 41 = .ok (.dup, 1) := by decide +kernel
theorem dX11_init_42 : decode cX11_init 42 = .ok (.invokespecial 28, 3) := by decide +kernel
theorem dX11_init_45 : decode cX11_init 45 = .ok (.putfield 29, 3) := by decide +kernel
theorem dX11_init_48 : decode cX11_init 48 = .ok (.aload_n 0, 1) := by decide +kernel
theorem dX11_init_49 : decode cX11_init 49 = .ok (.new 33, 3) := by decide +kernel
theorem dX11_init_52 : decode cX11_init 52 = .ok (.dup, 1) := by decide +kernel
theorem dX11_init_53 : decode cX11_init 53 = .ok (.invokespecial 35, 3) := by decide +kernel
theorem dX11_init_56 : decode cX11_init 56 = .ok (.putfield 36, 3) := by decide +kernel
theorem dX11_init_59 : decode cX11_init 59 = .ok (.aload_n 0, 1) := by decide +kernel
theorem dX11_init_60 : decode cX11_init 60 = .ok (.new 40, 3) := by decide +kernel
theorem dX11_init_63 : decode cX11_init 63 = .ok (.dup, 1) := by decide +kernel
theorem dX11_init_64 : decode cX11_init 64 = .ok (.invokespecial 42, 3) := by decide +kernel
theorem dX11_init_67 : decode cX11_init 67 = .ok (.putfield 43, 3) := by decide +kernel
theorem dX11_init_70 : decode cX11_init 70 = .ok (.aload_n 0, 1) := by decide +kernel
theorem dX11_init_71 : decode cX11_init 71 = .ok (.new 47, 3) := by decide +kernel
theorem dX11_init_74 : decode cX11_init 74 = .ok (.dup, 1) := by decide +kernel
theorem dX11_init_75 : decode cX11_init 75 = .ok (.invokespecial 49, 3) := by decide +kernel
theorem dX11_init_78 : decode cX11_init 78 = .ok (.putfield 50, 3) := by decide +kernel
theorem dX11_init_81 : decode cX11_init 81 = .ok (.return_, 1) := by decide +kernel
theorem dX11_letter_0 : decode cX11_letter 0 = .ok (.iload_n 1, 1) := by decide +kernel
theorem dX11_letter_1 : decode cX11_letter 1 = .ok (.bipush 32, 2) := by decide +kernel
theorem dX11_letter_3 : decode cX11_letter 3 = .ok (.bipush 126, 2) := by decide +kernel
theorem dX11_letter_5 : decode cX11_letter 5 = .ok (.invokestatic 54, 3) := by decide +kernel
theorem dX11_letter_8 : decode cX11_letter 8 = .ok (.ifCond .ne 6, 3) := by decide +kernel
theorem dX11_letter_11 : decode cX11_letter 11 = .ok (.bipush (-102), 2) := by decide +kernel
theorem dX11_letter_13 : decode cX11_letter 13 = .ok (.ireturn, 1) := by decide +kernel
theorem dX11_letter_14 : decode cX11_letter 14 = .ok (.aload_n 0, 1) := by decide +kernel
theorem dX11_letter_15 : decode cX11_letter 15 = .ok (.getfield 10, 3) := by decide +kernel
theorem dX11_letter_18 : decode cX11_letter 18 = .ok (.getfield 58, 3) := by decide +kernel
theorem dX11_letter_21 : decode cX11_letter 21 = .ok (.bipush 34, 2) := by decide +kernel
theorem dX11_letter_23 : decode cX11_letter 23 = .ok (.if_icmp .lt 6, 3) := by decide +kernel
theorem dX11_letter_26 : decode cX11_letter 26 = .ok (.bipush (-104), 2) := by decide +kernel
theorem dX11_letter_28 : decode cX11_letter 28 = .ok (.ireturn, 1) := by decide +kernel
theorem dX11_letter_29 : decode cX11_letter 29 = .ok (.aload_n 0, 1) := by decide +kernel
theorem dX11_letter_30 : decode cX11_letter 30 = .ok (.getfield 10, 3) := by decide +kernel
theorem dX11_letter_33 : decode cX11_letter 33 = .ok (.getfield 62, 3) := by decide +kernel
theorem dX11_letter_36 : decode cX11_letter 36 = .ok (.aload_n 0, 1) := by decide +kernel
theorem dX11_letter_37 : decode cX11_letter 37 = .ok (.getfield 10, 3) := by decide +kernel
theorem dX11_letter_40 : decode cX11_letter 40 = .ok (.getfield 58, 3) := by decide +kernel
theorem dX11_letter_43 : decode cX11_letter 43 = .ok (.iload_n 1, 1) := by decide +kernel
theorem dX11_letter_44 : decode cX11_letter 44 = .ok (.i2c, 1) := by decide +kernel
theorem dX11_letter_45 : decode cX11_letter 45 = .ok (.castore, 1) := by decide +kernel
theorem dX11_letter_46 : decode cX11_letter 46 = .ok (.aload_n 0, 1) := by decide +kernel
theorem dX11_letter_47 : decode cX11_letter 47 = .ok (.getfield 10, 3) := by decide +kernel
theorem dX11_letter_50 : decode cX11_letter 50 = .ok (.dup, 1) := by decide +kernel
theorem dX11_letter_51 : decode cX11_letter 51 = .ok (.getfield 58, 3) := by decide +kernel
theorem dX11_letter_54 : decode cX11_letter 54 = .ok (.iconst 1, 1) := by decide +kernel
theorem dX11_letter_55 : decode cX11_letter 55 = .ok (.iadd, 1) := by decide +kernel
theorem dX11_letter_56 : decode cX11_letter 56 = .ok (.putfield 58, 3) := by decide +kernel
theorem dX11_letter_59 : decode cX11_letter 59 = .ok (.aload_n 0, 1) := by decide +kernel
theorem dX11_letter_60 : decode cX11_letter 60 = .ok (.getfield 10, 3) := by decide +kernel
theorem dX11_letter_63 : decode cX11_letter 63 = .ok (.getfield 58, 3) := by decide +kernel
theorem dX11_letter_66 : decode cX11_letter 66 = .ok (.ireturn, 1) := by decide +kernel
theorem dX11_fault_0 : decode cX11_fault 0 = .ok (.aload_n 0, 1) := by decide +kernel
theorem dX11_fault_1 : decode cX11_fault 1 = .ok (.getfield 10, 3) := by decide +kernel
theorem dX11_fault_4 : decode cX11_fault 4 = .ok (.invokevirtual 66, 3) := by decide +kernel
theorem dX11_fault_7 : decode cX11_fault 7 = .ok (.ireturn, 1) := by decide +kernel
theorem dX11_court_0 : decode cX11_court 0 = .ok (.aload_n 0, 1) := by decide +kernel
theorem dX11_court_1 : decode cX11_court 1 = .ok (.getfield 10, 3) := by decide +kernel
theorem dX11_court_4 : decode cX11_court 4 = .ok (.invokevirtual 70, 3) := by decide +kernel
theorem dX11_court_7 : decode cX11_court 7 = .ok (.ifCond .ne 6, 3) := by decide +kernel
theorem dX11_court_10 : decode cX11_court 10 = .ok (.bipush (-103), 2) := by decide +kernel
theorem dX11_court_12 : decode cX11_court 12 = .ok (.ireturn, 1) := by decide +kernel
theorem dX11_court_13 : decode cX11_court 13 = .ok (.aload_n 0, 1) := by decide +kernel
theorem dX11_court_14 : decode cX11_court 14 = .ok (.getfield 19, 3) := by decide +kernel
theorem dX11_court_17 : decode cX11_court 17 = .ok (.aload_n 0, 1) := by decide +kernel
theorem dX11_court_18 : decode cX11_court 18 = .ok (.getfield 10, 3) := by decide +kernel
theorem dX11_court_21 : decode cX11_court 21 = .ok (.invokevirtual 74, 3) := by decide +kernel
theorem dX11_court_24 : decode cX11_court 24 = .ok (.aload_n 0, 1) := by decide +kernel
theorem dX11_court_25 : decode cX11_court 25 = .ok (.getfield 10, 3) := by decide +kernel
theorem dX11_court_28 : decode cX11_court 28 = .ok (.iconst 0, 1) := by decide +kernel
theorem dX11_court_29 : decode cX11_court 29 = .ok (.putfield 58, 3) := by decide +kernel
theorem dX11_court_32 : decode cX11_court 32 = .ok (.aload_n 0, 1) := by decide +kernel
theorem dX11_court_33 : decode cX11_court 33 = .ok (.iconst 0, 1) := by decide +kernel
theorem dX11_court_34 : decode cX11_court 34 = .ok (.putfield 78, 3) := by decide +kernel
theorem dX11_court_37 : decode cX11_court 37 = .ok (.aload_n 0, 1) := by decide +kernel
theorem dX11_court_38 : decode cX11_court 38 = .ok (.dup, 1) := by decide +kernel
theorem dX11_court_39 : decode cX11_court 39 = .ok (.getfield 82, 3) := by decide +kernel
theorem dX11_court_42 : decode cX11_court 42 = .ok (.iconst 1, 1) := by decide +kernel
theorem dX11_court_43 : decode cX11_court 43 = .ok (.iadd, 1) := by decide +kernel
theorem dX11_court_44 : decode cX11_court 44 = .ok (.putfield 82, 3) := by decide +kernel
theorem dX11_court_47 : decode cX11_court 47 = .ok (.aload_n 0, 1) := by decide +kernel
theorem dX11_court_48 : decode cX11_court 48 = .ok (.getfield 19, 3) := by decide +kernel
theorem dX11_court_51 : decode cX11_court 51 = .ok (.getfield 85, 3) := by decide +kernel
theorem dX11_court_54 : decode cX11_court 54 = .ok (.ireturn, 1) := by decide +kernel
theorem dX11_party_0 : decode cX11_party 0 = .ok (.aload_n 0, 1) := by decide +kernel
theorem dX11_party_1 : decode cX11_party 1 = .ok (.getfield 19, 3) := by decide +kernel
theorem dX11_party_4 : decode cX11_party 4 = .ok (.iload_n 1, 1) := by decide +kernel
theorem dX11_party_5 : decode cX11_party 5 = .ok (.invokevirtual 88, 3) := by decide +kernel
theorem dX11_party_8 : decode cX11_party 8 = .ok (.ifCond .ne 6, 3) := by decide +kernel
theorem dX11_party_11 : decode cX11_party 11 = .ok (.bipush (-101), 2) := by decide +kernel
theorem dX11_party_13 : decode cX11_party 13 = .ok (.ireturn, 1) := by decide +kernel
theorem dX11_party_14 : decode cX11_party 14 = .ok (.iload_n 2, 1) := by decide +kernel
theorem dX11_party_15 : decode cX11_party 15 = .ok (.tableswitch 139 0 6 #[41, 54, 64, 74, 90, 113, 126], 41) := by decide +kernel
theorem dX11_party_56 : decode cX11_party 56 = .ok (.aload_n 0, 1) := by decide +kernel
theorem dX11_party_57 : decode cX11_party 57 = .ok (.getfield 19, 3) := by decide +kernel
theorem dX11_party_60 : decode cX11_party 60 = .ok (.getfield 92, 3) := by decide +kernel
theorem dX11_party_63 : decode cX11_party 63 = .ok (.iload_n 1, 1) := by decide +kernel
theorem dX11_party_64 : decode cX11_party 64 = .ok (.aaload, 1) := by decide +kernel
theorem dX11_party_65 : decode cX11_party 65 = .ok (.getfield 96, 3) := by decide +kernel
theorem dX11_party_68 : decode cX11_party 68 = .ok (.ireturn, 1) := by decide +kernel
theorem dX11_party_69 : decode cX11_party 69 = .ok (.aload_n 0, 1) := by decide +kernel
theorem dX11_party_70 : decode cX11_party 70 = .ok (.getfield 19, 3) := by decide +kernel
theorem dX11_party_73 : decode cX11_party 73 = .ok (.getfield 101, 3) := by decide +kernel
theorem dX11_party_76 : decode cX11_party 76 = .ok (.iload_n 1, 1) := by decide +kernel
theorem dX11_party_77 : decode cX11_party 77 = .ok (.iaload, 1) := by decide +kernel
theorem dX11_party_78 : decode cX11_party 78 = .ok (.ireturn, 1) := by decide +kernel
theorem dX11_party_79 : decode cX11_party 79 = .ok (.aload_n 0, 1) := by decide +kernel
theorem dX11_party_80 : decode cX11_party 80 = .ok (.getfield 19, 3) := by decide +kernel
theorem dX11_party_83 : decode cX11_party 83 = .ok (.getfield 105, 3) := by decide +kernel
theorem dX11_party_86 : decode cX11_party 86 = .ok (.iload_n 1, 1) := by decide +kernel
theorem dX11_party_87 : decode cX11_party 87 = .ok (.iaload, 1) := by decide +kernel
theorem dX11_party_88 : decode cX11_party 88 = .ok (.ireturn, 1) := by decide +kernel
theorem dX11_party_89 : decode cX11_party 89 = .ok (.aload_n 0, 1) := by decide +kernel
theorem dX11_party_90 : decode cX11_party 90 = .ok (.getfield 19, 3) := by decide +kernel
theorem dX11_party_93 : decode cX11_party 93 = .ok (.iload_n 1, 1) := by decide +kernel
theorem dX11_party_94 : decode cX11_party 94 = .ok (.aload_n 0, 1) := by decide +kernel
theorem dX11_party_95 : decode cX11_party 95 = .ok (.getfield 19, 3) := by decide +kernel
theorem dX11_party_98 : decode cX11_party 98 = .ok (.getfield 108, 3) := by decide +kernel
theorem dX11_party_101 : decode cX11_party 101 = .ok (.invokevirtual 111, 3) := by decide +kernel
theorem dX11_party_104 : decode cX11_party 104 = .ok (.ireturn, 1) := by decide +kernel
theorem dX11_party_105 : decode cX11_party 105 = .ok (.aload_n 0, 1) := by decide +kernel
theorem dX11_party_106 : decode cX11_party 106 = .ok (.getfield 19, 3) := by decide +kernel
theorem dX11_party_109 : decode cX11_party 109 = .ok (.aload_n 0, 1) := by decide +kernel
theorem dX11_party_110 : decode cX11_party 110 = .ok (.getfield 19, 3) := by decide +kernel
theorem dX11_party_113 : decode cX11_party 113 = .ok (.iload_n 1, 1) := by decide +kernel
theorem dX11_party_114 : decode cX11_party 114 = .ok (.aload_n 0, 1) := by decide +kernel
theorem dX11_party_115 : decode cX11_party 115 = .ok (.getfield 19, 3) := by decide +kernel
theorem dX11_party_118 : decode cX11_party 118 = .ok (.getfield 108, 3) := by decide +kernel
theorem dX11_party_121 : decode cX11_party 121 = .ok (.invokevirtual 111, 3) := by decide +kernel
theorem dX11_party_124 : decode cX11_party 124 = .ok (.invokevirtual 115, 3) := by decide +kernel
theorem dX11_party_127 : decode cX11_party 127 = .ok (.ireturn, 1) := by decide +kernel
theorem dX11_party_128 : decode cX11_party 128 = .ok (.aload_n 0, 1) := by decide +kernel
theorem dX11_party_129 : decode cX11_party 129 = .ok (.getfield 29, 3) := by decide +kernel
theorem dX11_party_132 : decode cX11_party 132 = .ok (.aload_n 0, 1) := by decide +kernel
theorem dX11_party_133 : decode cX11_party 133 = .ok (.getfield 19, 3) := by decide +kernel
theorem dX11_party_136 : decode cX11_party 136 = .ok (.iload_n 1, 1) := by decide +kernel
theorem dX11_party_137 : decode cX11_party 137 = .ok (.invokevirtual 119, 3) := by decide +kernel
theorem dX11_party_140 : decode cX11_party 140 = .ok (.ireturn, 1) := by decide +kernel
theorem dX11_party_141 : decode cX11_party 141 = .ok (.aload_n 0, 1) := by decide +kernel
theorem dX11_party_142 : decode cX11_party 142 = .ok (.getfield 29, 3) := by decide +kernel
theorem dX11_party_145 : decode cX11_party 145 = .ok (.aload_n 0, 1) := by decide +kernel
theorem dX11_party_146 : decode cX11_party 146 = .ok (.getfield 19, 3) := by decide +kernel
theorem dX11_party_149 : decode cX11_party 149 = .ok (.iload_n 1, 1) := by decide +kernel
theorem dX11_party_150 : decode cX11_party 150 = .ok (.invokevirtual 123, 3) := by decide +kernel
theorem dX11_party_153 : decode cX11_party 153 = .ok (.ireturn, 1) := by decide +kernel
theorem dX11_party_154 : decode cX11_party 154 = .ok (.bipush (-102), 2) := by decide +kernel
theorem dX11_party_156 : decode cX11_party 156 = .ok (.ireturn, 1) := by decide +kernel
theorem dX11_as_0 : decode cX11_as 0 = .ok (.aload_n 0, 1) := by decide +kernel
theorem dX11_as_1 : decode cX11_as 1 = .ok (.getfield 19, 3) := by decide +kernel
theorem dX11_as_4 : decode cX11_as 4 = .ok (.iload_n 1, 1) := by decide +kernel
theorem dX11_as_5 : decode cX11_as 5 = .ok (.invokevirtual 88, 3) := by decide +kernel
theorem dX11_as_8 : decode cX11_as 8 = .ok (.ifCond .ne 6, 3) := by decide +kernel
theorem dX11_as_11 : decode cX11_as 11 = .ok (.bipush (-101), 2) := by decide +kernel
theorem dX11_as_13 : decode cX11_as 13 = .ok (.ireturn, 1) := by decide +kernel
theorem dX11_as_14 : decode cX11_as 14 = .ok (.iload_n 2, 1) := by decide +kernel
theorem dX11_as_15 : decode cX11_as 15 = .ok (.tableswitch 119 0 4 #[33, 35, 56, 77, 98], 33) := by decide +kernel
theorem dX11_as_48 : decode cX11_as 48 = .ok (.iload_n 1, 1) := by decide +kernel
theorem dX11_as_49 : decode cX11_as 49 = .ok (.ireturn, 1) := by decide +kernel
theorem dX11_as_50 : decode cX11_as 50 = .ok (.aload_n 0, 1) := by decide +kernel
theorem dX11_as_51 : decode cX11_as 51 = .ok (.getfield 19, 3) := by decide +kernel
theorem dX11_as_54 : decode cX11_as 54 = .ok (.getfield 92, 3) := by decide +kernel
theorem dX11_as_57 : decode cX11_as 57 = .ok (.iload_n 1, 1) := by decide +kernel
theorem dX11_as_58 : decode cX11_as 58 = .ok (.aaload, 1) := by decide +kernel
theorem dX11_as_59 : decode cX11_as 59 = .ok (.instanceof 126, 3) := by decide +kernel
theorem dX11_as_62 : decode cX11_as 62 = .ok (.ifCond .eq 7, 3) := by decide +kernel
theorem dX11_as_65 : decode cX11_as 65 = .ok (.iload_n 1, 1) := by decide +kernel
theorem dX11_as_66 : decode cX11_as 66 = .ok (.goto 4, 3) := by decide +kernel
theorem dX11_as_69 : decode cX11_as 69 = .ok (.iconst (-1), 1) := by decide +kernel
theorem dX11_as_70 : decode cX11_as 70 = .ok (.ireturn, 1) := by decide +kernel
theorem dX11_as_71 : decode cX11_as 71 = .ok (.aload_n 0, 1) := by decide +kernel
theorem dX11_as_72 : decode cX11_as 72 = .ok (.getfield 19, 3) := by decide +kernel
theorem dX11_as_75 : decode cX11_as 75 = .ok (.getfield 92, 3) := by decide +kernel
theorem dX11_as_78 : decode cX11_as 78 = .ok (.iload_n 1, 1) := by decide +kernel
theorem dX11_as_79 : decode cX11_as 79 = .ok (.aaload, 1) := by decide +kernel
theorem dX11_as_80 : decode cX11_as 80 = .ok (.instanceof 128, 3) := by decide +kernel
theorem dX11_as_83 : decode cX11_as 83 = .ok (.ifCond .eq 7, 3) := by decide +kernel
theorem dX11_as_86 : decode cX11_as 86 = .ok (.iload_n 1, 1) := by decide +kernel
theorem dX11_as_87 : decode cX11_as 87 = .ok (.goto 4, 3) := by decide +kernel
theorem dX11_as_90 : decode cX11_as 90 = .ok (.iconst (-1), 1) := by decide +kernel
theorem dX11_as_91 : decode cX11_as 91 = .ok (.ireturn, 1) := by decide +kernel
theorem dX11_as_92 : decode cX11_as 92 = .ok (.aload_n 0, 1) := by decide +kernel
theorem dX11_as_93 : decode cX11_as 93 = .ok (.getfield 19, 3) := by decide +kernel
theorem dX11_as_96 : decode cX11_as 96 = .ok (.getfield 92, 3) := by decide +kernel
theorem dX11_as_99 : decode cX11_as 99 = .ok (.iload_n 1, 1) := by decide +kernel
theorem dX11_as_100 : decode cX11_as 100 = .ok (.aaload, 1) := by decide +kernel
theorem dX11_as_101 : decode cX11_as 101 = .ok (.instanceof 130, 3) := by decide +kernel
theorem dX11_as_104 : decode cX11_as 104 = .ok (.ifCond .eq 7, 3) := by decide +kernel
theorem dX11_as_107 : decode cX11_as 107 = .ok (.iload_n 1, 1) := by decide +kernel
theorem dX11_as_108 : decode cX11_as 108 = .ok (.goto 4, 3) := by decide +kernel
theorem dX11_as_111 : decode cX11_as 111 = .ok (.iconst (-1), 1) := by decide +kernel
theorem dX11_as_112 : decode cX11_as 112 = .ok (.ireturn, 1) := by decide +kernel
theorem dX11_as_113 : decode cX11_as 113 = .ok (.aload_n 0, 1) := by decide +kernel
theorem dX11_as_114 : decode cX11_as 114 = .ok (.getfield 19, 3) := by decide +kernel
theorem dX11_as_117 : decode cX11_as 117 = .ok (.getfield 92, 3) := by decide +kernel
theorem dX11_as_120 : decode cX11_as 120 = .ok (.iload_n 1, 1) := by decide +kernel
theorem dX11_as_121 : decode cX11_as 121 = .ok (.aaload, 1) := by decide +kernel
theorem dX11_as_122 : decode cX11_as 122 = .ok (.instanceof 132, 3) := by decide +kernel
theorem dX11_as_125 : decode cX11_as 125 = .ok (.ifCond .eq 7, 3) := by decide +kernel
theorem dX11_as_128 : decode cX11_as 128 = .ok (.iload_n 1, 1) := by decide +kernel
theorem dX11_as_129 : decode cX11_as 129 = .ok (.goto 4, 3) := by decide +kernel
theorem dX11_as_132 : decode cX11_as 132 = .ok (.iconst (-1), 1) := by decide +kernel
theorem dX11_as_133 : decode cX11_as 133 = .ok (.ireturn, 1) := by decide +kernel
theorem dX11_as_134 : decode cX11_as 134 = .ok (.bipush (-102), 2) := by decide +kernel
theorem dX11_as_136 : decode cX11_as 136 = .ok (.ireturn, 1) := by decide +kernel
theorem dX11_covers_0 : decode cX11_covers 0 = .ok (.aload_n 0, 1) := by decide +kernel
theorem dX11_covers_1 : decode cX11_covers 1 = .ok (.getfield 19, 3) := by decide +kernel
theorem dX11_covers_4 : decode cX11_covers 4 = .ok (.iload_n 1, 1) := by decide +kernel
theorem dX11_covers_5 : decode cX11_covers 5 = .ok (.invokevirtual 88, 3) := by decide +kernel
theorem dX11_covers_8 : decode cX11_covers 8 = .ok (.ifCond .ne 6, 3) := by decide +kernel
theorem dX11_covers_11 : decode cX11_covers 11 = .ok (.bipush (-101), 2) := by decide +kernel
theorem dX11_covers_13 : decode cX11_covers 13 = .ok (.ireturn, 1) := by decide +kernel
theorem dX11_covers_14 : decode cX11_covers 14 = .ok (.iload_n 2, 1) := by decide +kernel
theorem dX11_covers_15 : decode cX11_covers 15 = .ok (.invokestatic 134, 3) := by decide +kernel
theorem dX11_covers_18 : decode cX11_covers 18 = .ok (.ifCond .ne 6, 3) := by decide +kernel
theorem dX11_covers_21 : decode cX11_covers 21 = .ok (.bipush (-102), 2) := by decide +kernel
theorem dX11_covers_23 : decode cX11_covers 23 = .ok (.ireturn, 1) := by decide +kernel
theorem dX11_covers_24 : decode cX11_covers 24 = .ok (.aload_n 0, 1) := by decide +kernel
theorem dX11_covers_25 : decode cX11_covers 25 = .ok (.getfield 19, 3) := by decide +kernel
theorem dX11_covers_28 : decode cX11_covers 28 = .ok (.iload_n 1, 1) := by decide +kernel
theorem dX11_covers_29 : decode cX11_covers 29 = .ok (.iload_n 2, 1) := by decide +kernel
theorem dX11_covers_30 : decode cX11_covers 30 = .ok (.invokevirtual 111, 3) := by decide +kernel
theorem dX11_covers_33 : decode cX11_covers 33 = .ok (.ireturn, 1) := by decide +kernel
theorem dX11_tile_0 : decode cX11_tile 0 = .ok (.aload_n 0, 1) := by decide +kernel
theorem dX11_tile_1 : decode cX11_tile 1 = .ok (.getfield 19, 3) := by decide +kernel
theorem dX11_tile_4 : decode cX11_tile 4 = .ok (.iload_n 1, 1) := by decide +kernel
theorem dX11_tile_5 : decode cX11_tile 5 = .ok (.invokevirtual 137, 3) := by decide +kernel
theorem dX11_tile_8 : decode cX11_tile 8 = .ok (.ifCond .ne 6, 3) := by decide +kernel
theorem dX11_tile_11 : decode cX11_tile 11 = .ok (.bipush (-101), 2) := by decide +kernel
theorem dX11_tile_13 : decode cX11_tile 13 = .ok (.ireturn, 1) := by decide +kernel
theorem dX11_tile_14 : decode cX11_tile 14 = .ok (.iload_n 2, 1) := by decide +kernel
theorem dX11_tile_15 : decode cX11_tile 15 = .ok (.tableswitch 53 0 2 #[25, 35, 44], 25) := by decide +kernel
theorem dX11_tile_40 : decode cX11_tile 40 = .ok (.aload_n 0, 1) := by decide +kernel
theorem dX11_tile_41 : decode cX11_tile 41 = .ok (.getfield 19, 3) := by decide +kernel
theorem dX11_tile_44 : decode cX11_tile 44 = .ok (.getfield 140, 3) := by decide +kernel
theorem dX11_tile_47 : decode cX11_tile 47 = .ok (.iload_n 1, 1) := by decide +kernel
theorem dX11_tile_48 : decode cX11_tile 48 = .ok (.iaload, 1) := by decide +kernel
theorem dX11_tile_49 : decode cX11_tile 49 = .ok (.ireturn, 1) := by decide +kernel
theorem dX11_tile_50 : decode cX11_tile 50 = .ok (.aload_n 0, 1) := by decide +kernel
theorem dX11_tile_51 : decode cX11_tile 51 = .ok (.getfield 19, 3) := by decide +kernel
theorem dX11_tile_54 : decode cX11_tile 54 = .ok (.iload_n 1, 1) := by decide +kernel
theorem dX11_tile_55 : decode cX11_tile 55 = .ok (.invokevirtual 143, 3) := by decide +kernel
theorem dX11_tile_58 : decode cX11_tile 58 = .ok (.ireturn, 1) := by decide +kernel
theorem dX11_tile_59 : decode cX11_tile 59 = .ok (.aload_n 0, 1) := by decide +kernel
theorem dX11_tile_60 : decode cX11_tile 60 = .ok (.getfield 19, 3) := by decide +kernel
theorem dX11_tile_63 : decode cX11_tile 63 = .ok (.iload_n 1, 1) := by decide +kernel
theorem dX11_tile_64 : decode cX11_tile 64 = .ok (.invokevirtual 146, 3) := by decide +kernel
theorem dX11_tile_67 : decode cX11_tile 67 = .ok (.ireturn, 1) := by decide +kernel
theorem dX11_tile_68 : decode cX11_tile 68 = .ok (.bipush (-102), 2) := by decide +kernel
theorem dX11_tile_70 : decode cX11_tile 70 = .ok (.ireturn, 1) := by decide +kernel
theorem dX11_found_0 : decode cX11_found 0 = .ok (.aload_n 0, 1) := by decide +kernel
theorem dX11_found_1 : decode cX11_found 1 = .ok (.getfield 19, 3) := by decide +kernel
theorem dX11_found_4 : decode cX11_found 4 = .ok (.iload_n 1, 1) := by decide +kernel
theorem dX11_found_5 : decode cX11_found 5 = .ok (.iload_n 2, 1) := by decide +kernel
theorem dX11_found_6 : decode cX11_found 6 = .ok (.invokevirtual 149, 3) := by decide +kernel
theorem dX11_found_9 : decode cX11_found 9 = .ok (.ifCond .ne 6, 3) := by decide +kernel
theorem dX11_found_12 : decode cX11_found 12 = .ok (.bipush (-101), 2) := by decide +kernel
theorem dX11_found_14 : decode cX11_found 14 = .ok (.ireturn, 1) := by decide +kernel
theorem dX11_found_15 : decode cX11_found 15 = .ok (.iload_n 3, 1) := by decide +kernel
theorem dX11_found_16 : decode cX11_found 16 = .ok (.invokestatic 134, 3) := by decide +kernel
theorem dX11_found_19 : decode cX11_found 19 = .ok (.ifCond .ne 6, 3) := by decide +kernel
theorem dX11_found_22 : decode cX11_found 22 = .ok (.bipush (-102), 2) := by decide +kernel
theorem dX11_found_24 : decode cX11_found 24 = .ok (.ireturn, 1) := by decide +kernel
theorem dX11_found_25 : decode cX11_found 25 = .ok (.aload_n 0, 1) := by decide +kernel
theorem dX11_found_26 : decode cX11_found 26 = .ok (.getfield 19, 3) := by decide +kernel
theorem dX11_found_29 : decode cX11_found 29 = .ok (.iload_n 1, 1) := by decide +kernel
theorem dX11_found_30 : decode cX11_found 30 = .ok (.iload_n 2, 1) := by decide +kernel
theorem dX11_found_31 : decode cX11_found 31 = .ok (.iload_n 3, 1) := by decide +kernel
theorem dX11_found_32 : decode cX11_found 32 = .ok (.invokevirtual 153, 3) := by decide +kernel
theorem dX11_found_35 : decode cX11_found 35 = .ok (.bipush 100, 2) := by decide +kernel
theorem dX11_found_37 : decode cX11_found 37 = .ok (.iadd, 1) := by decide +kernel
theorem dX11_found_38 : decode cX11_found 38 = .ok (.ireturn, 1) := by decide +kernel
theorem dX11_tick_0 : decode cX11_tick 0 = .ok (.aload_n 0, 1) := by decide +kernel
theorem dX11_tick_1 : decode cX11_tick 1 = .ok (.getfield 19, 3) := by decide +kernel
theorem dX11_tick_4 : decode cX11_tick 4 = .ok (.invokevirtual 157, 3) := by decide +kernel
theorem dX11_tick_7 : decode cX11_tick 7 = .ok (.ifCond .eq 6, 3) := by decide +kernel
theorem dX11_tick_10 : decode cX11_tick 10 = .ok (.bipush (-103), 2) := by decide +kernel
theorem dX11_tick_12 : decode cX11_tick 12 = .ok (.ireturn, 1) := by decide +kernel
theorem dX11_tick_13 : decode cX11_tick 13 = .ok (.aload_n 0, 1) := by decide +kernel
theorem dX11_tick_14 : decode cX11_tick 14 = .ok (.getfield 19, 3) := by decide +kernel
theorem dX11_tick_17 : decode cX11_tick 17 = .ok (.getfield 108, 3) := by decide +kernel
theorem dX11_tick_20 : decode cX11_tick 20 = .ok (.bipush 12, 2) := by decide +kernel
theorem dX11_tick_22 : decode cX11_tick 22 = .ok (.if_icmp .ne 7, 3) := by decide +kernel
theorem dX11_tick_25 : decode cX11_tick 25 = .ok (.iconst 1, 1) := by decide +kernel
theorem dX11_tick_26 : decode cX11_tick 26 = .ok (.goto 4, 3) := by decide +kernel
theorem dX11_tick_29 : decode cX11_tick 29 = .ok (.iconst 0, 1) := by decide +kernel
theorem dX11_tick_30 : decode cX11_tick 30 = .ok (.istore_n 1, 1) := by decide +kernel
theorem dX11_tick_31 : decode cX11_tick 31 = .ok (.iload_n 1, 1) := by decide +kernel
theorem dX11_tick_32 : decode cX11_tick 32 = .ok (.ifCond .eq 20, 3) := by decide +kernel
theorem dX11_tick_35 : decode cX11_tick 35 = .ok (.aload_n 0, 1) := by decide +kernel
theorem dX11_tick_36 : decode cX11_tick 36 = .ok (.getfield 19, 3) := by decide +kernel
theorem dX11_tick_39 : decode cX11_tick 39 = .ok (.getfield 160, 3) := by decide +kernel
theorem dX11_tick_42 : decode cX11_tick 42 = .ok (.iconst 1, 1) := by decide +kernel
theorem dX11_tick_43 : decode cX11_tick 43 = .ok (.iadd, 1) := by decide +kernel
theorem dX11_tick_44 : decode cX11_tick 44 = .ok (.bipush 100, 2) := by decide +kernel
theorem dX11_tick_46 : decode cX11_tick 46 = .ok (.if_icmp .lt 6, 3) := by decide +kernel
theorem dX11_tick_49 : decode cX11_tick 49 = .ok (.bipush (-104), 2) := by decide +kernel
theorem dX11_tick_51 : decode cX11_tick 51 = .ok (.ireturn, 1) := by decide +kernel
theorem dX11_tick_52 : decode cX11_tick 52 = .ok (.iload_n 1, 1) := by decide +kernel
theorem dX11_tick_53 : decode cX11_tick 53 = .ok (.ifCond .eq 16, 3) := by decide +kernel
theorem dX11_tick_56 : decode cX11_tick 56 = .ok (.aload_n 0, 1) := by decide +kernel
theorem dX11_tick_57 : decode cX11_tick 57 = .ok (.getfield 19, 3) := by decide +kernel
theorem dX11_tick_60 : decode cX11_tick 60 = .ok (.dup, 1) := by decide +kernel
theorem dX11_tick_61 : decode cX11_tick 61 = .ok (.getfield 160, 3) := by decide +kernel
theorem dX11_tick_64 : decode cX11_tick 64 = .ok (.iconst 1, 1) := by decide +kernel
theorem dX11_tick_65 : decode cX11_tick 65 = .ok (.iadd, 1) := by decide +kernel
theorem dX11_tick_66 : decode cX11_tick 66 = .ok (.putfield 160, 3) := by decide +kernel
theorem dX11_tick_69 : decode cX11_tick 69 = .ok (.aload_n 0, 1) := by decide +kernel
theorem dX11_tick_70 : decode cX11_tick 70 = .ok (.getfield 19, 3) := by decide +kernel
theorem dX11_tick_73 : decode cX11_tick 73 = .ok (.iload_n 1, 1) := by decide +kernel
theorem dX11_tick_74 : decode cX11_tick 74 = .ok (.ifCond .eq 7, 3) := by decide +kernel
theorem dX11_tick_77 : decode cX11_tick 77 = .ok (.iconst 0, 1) := by decide +kernel
theorem dX11_tick_78 : decode cX11_tick 78 = .ok (.goto 12, 3) := by decide +kernel
theorem dX11_tick_81 : decode cX11_tick 81 = .ok (.aload_n 0, 1) := by decide +kernel
theorem dX11_tick_82 : decode cX11_tick 82 = .ok (.getfield 19, 3) := by decide +kernel
theorem dX11_tick_85 : decode cX11_tick 85 = .ok (.getfield 108, 3) := by decide +kernel
theorem dX11_tick_88 : decode cX11_tick 88 = .ok (.iconst 1, 1) := by decide +kernel
theorem dX11_tick_89 : decode cX11_tick 89 = .ok (.iadd, 1) := by decide +kernel
theorem dX11_tick_90 : decode cX11_tick 90 = .ok (.putfield 108, 3) := by decide +kernel
theorem dX11_tick_93 : decode cX11_tick 93 = .ok (.aload_n 0, 1) := by decide +kernel
theorem dX11_tick_94 : decode cX11_tick 94 = .ok (.getfield 19, 3) := by decide +kernel
theorem dX11_tick_97 : decode cX11_tick 97 = .ok (.getfield 108, 3) := by decide +kernel
theorem dX11_tick_100 : decode cX11_tick 100 = .ok (.ireturn, 1) := by decide +kernel
theorem dX11_step_0 : decode cX11_step 0 = .ok (.aload_n 0, 1) := by decide +kernel
theorem dX11_step_1 : decode cX11_step 1 = .ok (.getfield 19, 3) := by decide +kernel
theorem dX11_step_4 : decode cX11_step 4 = .ok (.iload_n 1, 1) := by decide +kernel
theorem dX11_step_5 : decode cX11_step 5 = .ok (.invokevirtual 88, 3) := by decide +kernel
theorem dX11_step_8 : decode cX11_step 8 = .ok (.ifCond .ne 6, 3) := by decide +kernel
theorem dX11_step_11 : decode cX11_step 11 = .ok (.bipush (-101), 2) := by decide +kernel
theorem dX11_step_13 : decode cX11_step 13 = .ok (.ireturn, 1) := by decide +kernel
theorem dX11_step_14 : decode cX11_step 14 = .ok (.iload_n 2, 1) := by decide +kernel
theorem dX11_step_15 : decode cX11_step 15 = .ok (.iconst (-1), 1) := by decide +kernel
theorem dX11_step_16 : decode cX11_step 16 = .ok (.if_icmp .eq 11, 3) := by decide +kernel
theorem dX11_step_19 : decode cX11_step 19 = .ok (.iload_n 2, 1) := by decide +kernel
theorem dX11_step_20 : decode cX11_step 20 = .ok (.iconst 1, 1) := by decide +kernel
theorem dX11_step_21 : decode cX11_step 21 = .ok (.if_icmp .eq 6, 3) := by decide +kernel
theorem dX11_step_24 : decode cX11_step 24 = .ok (.bipush (-102), 2) := by decide +kernel
theorem dX11_step_26 : decode cX11_step 26 = .ok (.ireturn, 1) := by decide +kernel
theorem dX11_step_27 : decode cX11_step 27 = .ok (.aload_n 0, 1) := by decide +kernel
theorem dX11_step_28 : decode cX11_step 28 = .ok (.getfield 19, 3) := by decide +kernel
theorem dX11_step_31 : decode cX11_step 31 = .ok (.getfield 105, 3) := by decide +kernel
theorem dX11_step_34 : decode cX11_step 34 = .ok (.iload_n 1, 1) := by decide +kernel
theorem dX11_step_35 : decode cX11_step 35 = .ok (.iaload, 1) := by decide +kernel
theorem dX11_step_36 : decode cX11_step 36 = .ok (.iload_n 2, 1) := by decide +kernel
theorem dX11_step_37 : decode cX11_step 37 = .ok (.iadd, 1) := by decide +kernel
theorem dX11_step_38 : decode cX11_step 38 = .ok (.istore_n 3, 1) := by decide +kernel
theorem dX11_step_39 : decode cX11_step 39 = .ok (.iload_n 3, 1) := by decide +kernel
theorem dX11_step_40 : decode cX11_step 40 = .ok (.invokestatic 163, 3) := by decide +kernel
theorem dX11_step_43 : decode cX11_step 43 = .ok (.ifCond .ne 6, 3) := by decide +kernel
theorem dX11_step_46 : decode cX11_step 46 = .ok (.bipush (-103), 2) := by decide +kernel
theorem dX11_step_48 : decode cX11_step 48 = .ok (.ireturn, 1) := by decide +kernel
theorem dX11_step_49 : decode cX11_step 49 = .ok (.aload_n 0, 1) := by decide +kernel
theorem dX11_step_50 : decode cX11_step 50 = .ok (.getfield 19, 3) := by decide +kernel
theorem dX11_step_53 : decode cX11_step 53 = .ok (.getfield 105, 3) := by decide +kernel
theorem dX11_step_56 : decode cX11_step 56 = .ok (.iload_n 1, 1) := by decide +kernel
theorem dX11_step_57 : decode cX11_step 57 = .ok (.iload_n 3, 1) := by decide +kernel
theorem dX11_step_58 : decode cX11_step 58 = .ok (.iastore, 1) := by decide +kernel
theorem dX11_step_59 : decode cX11_step 59 = .ok (.iload_n 3, 1) := by decide +kernel
theorem dX11_step_60 : decode cX11_step 60 = .ok (.ireturn, 1) := by decide +kernel
theorem dX11_stand_0 : decode cX11_stand 0 = .ok (.aload_n 0, 1) := by decide +kernel
theorem dX11_stand_1 : decode cX11_stand 1 = .ok (.getfield 19, 3) := by decide +kernel
theorem dX11_stand_4 : decode cX11_stand 4 = .ok (.iload_n 1, 1) := by decide +kernel
theorem dX11_stand_5 : decode cX11_stand 5 = .ok (.invokevirtual 88, 3) := by decide +kernel
theorem dX11_stand_8 : decode cX11_stand 8 = .ok (.ifCond .eq 10, 3) := by decide +kernel
theorem dX11_stand_11 : decode cX11_stand 11 = .ok (.iload_n 2, 1) := by decide +kernel
theorem dX11_stand_12 : decode cX11_stand 12 = .ok (.invokestatic 163, 3) := by decide +kernel
theorem dX11_stand_15 : decode cX11_stand 15 = .ok (.ifCond .ne 6, 3) := by decide +kernel
theorem dX11_stand_18 : decode cX11_stand 18 = .ok (.bipush (-101), 2) := by decide +kernel
theorem dX11_stand_20 : decode cX11_stand 20 = .ok (.ireturn, 1) := by decide +kernel
theorem dX11_stand_21 : decode cX11_stand 21 = .ok (.aload_n 0, 1) := by decide +kernel
theorem dX11_stand_22 : decode cX11_stand 22 = .ok (.getfield 19, 3) := by decide +kernel
theorem dX11_stand_25 : decode cX11_stand 25 = .ok (.getfield 105, 3) := by decide +kernel
theorem dX11_stand_28 : decode cX11_stand 28 = .ok (.iload_n 1, 1) := by decide +kernel
theorem dX11_stand_29 : decode cX11_stand 29 = .ok (.iaload, 1) := by decide +kernel
theorem dX11_stand_30 : decode cX11_stand 30 = .ok (.istore_n 3, 1) := by decide +kernel
theorem dX11_stand_31 : decode cX11_stand 31 = .ok (.aload_n 0, 1) := by decide +kernel
theorem dX11_stand_32 : decode cX11_stand 32 = .ok (.getfield 19, 3) := by decide +kernel
theorem dX11_stand_35 : decode cX11_stand 35 = .ok (.getfield 105, 3) := by decide +kernel
theorem dX11_stand_38 : decode cX11_stand 38 = .ok (.iload_n 1, 1) := by decide +kernel
theorem dX11_stand_39 : decode cX11_stand 39 = .ok (.iload_n 2, 1) := by decide +kernel
theorem dX11_stand_40 : decode cX11_stand 40 = .ok (.iastore, 1) := by decide +kernel
theorem dX11_stand_41 : decode cX11_stand 41 = .ok (.iload_n 3, 1) := by decide +kernel
theorem dX11_stand_42 : decode cX11_stand 42 = .ok (.ireturn, 1) := by decide +kernel
theorem dX11_rise_0 : decode cX11_rise 0 = .ok (.aload_n 0, 1) := by decide +kernel
theorem dX11_rise_1 : decode cX11_rise 1 = .ok (.getfield 19, 3) := by decide +kernel
theorem dX11_rise_4 : decode cX11_rise 4 = .ok (.iload_n 1, 1) := by decide +kernel
theorem dX11_rise_5 : decode cX11_rise 5 = .ok (.invokevirtual 88, 3) := by decide +kernel
theorem dX11_rise_8 : decode cX11_rise 8 = .ok (.ifCond .ne 6, 3) := by decide +kernel
theorem dX11_rise_11 : decode cX11_rise 11 = .ok (.bipush (-101), 2) := by decide +kernel
theorem dX11_rise_13 : decode cX11_rise 13 = .ok (.ireturn, 1) := by decide +kernel
theorem dX11_rise_14 : decode cX11_rise 14 = .ok (.iload_n 2, 1) := by decide +kernel
theorem dX11_rise_15 : decode cX11_rise 15 = .ok (.iconst 1, 1) := by decide +kernel
theorem dX11_rise_16 : decode cX11_rise 16 = .ok (.bipush 9, 2) := by decide +kernel
theorem dX11_rise_18 : decode cX11_rise 18 = .ok (.invokestatic 54, 3) := by decide +kernel
theorem dX11_rise_21 : decode cX11_rise 21 = .ok (.ifCond .ne 6, 3) := by decide +kernel
theorem dX11_rise_24 : decode cX11_rise 24 = .ok (.bipush (-102), 2) := by decide +kernel
theorem dX11_rise_26 : decode cX11_rise 26 = .ok (.ireturn, 1) := by decide +kernel
theorem dX11_rise_27 : decode cX11_rise 27 = .ok (.aload_n 0, 1) := by decide +kernel
theorem dX11_rise_28 : decode cX11_rise 28 = .ok (.getfield 19, 3) := by decide +kernel
theorem dX11_rise_31 : decode cX11_rise 31 = .ok (.getfield 101, 3) := by decide +kernel
theorem dX11_rise_34 : decode cX11_rise 34 = .ok (.iload_n 1, 1) := by decide +kernel
theorem dX11_rise_35 : decode cX11_rise 35 = .ok (.iaload, 1) := by decide +kernel
theorem dX11_rise_36 : decode cX11_rise 36 = .ok (.istore_n 3, 1) := by decide +kernel
theorem dX11_rise_37 : decode cX11_rise 37 = .ok (.aload_n 0, 1) := by decide +kernel
theorem dX11_rise_38 : decode cX11_rise 38 = .ok (.getfield 19, 3) := by decide +kernel
theorem dX11_rise_41 : decode cX11_rise 41 = .ok (.getfield 101, 3) := by decide +kernel
theorem dX11_rise_44 : decode cX11_rise 44 = .ok (.iload_n 1, 1) := by decide +kernel
theorem dX11_rise_45 : decode cX11_rise 45 = .ok (.iload_n 2, 1) := by decide +kernel
theorem dX11_rise_46 : decode cX11_rise 46 = .ok (.iastore, 1) := by decide +kernel
theorem dX11_rise_47 : decode cX11_rise 47 = .ok (.iload_n 3, 1) := by decide +kernel
theorem dX11_rise_48 : decode cX11_rise 48 = .ok (.ireturn, 1) := by decide +kernel
theorem dX11_lay_0 : decode cX11_lay 0 = .ok (.aload_n 0, 1) := by decide +kernel
theorem dX11_lay_1 : decode cX11_lay 1 = .ok (.getfield 19, 3) := by decide +kernel
theorem dX11_lay_4 : decode cX11_lay 4 = .ok (.iload_n 1, 1) := by decide +kernel
theorem dX11_lay_5 : decode cX11_lay 5 = .ok (.invokevirtual 137, 3) := by decide +kernel
theorem dX11_lay_8 : decode cX11_lay 8 = .ok (.ifCond .ne 6, 3) := by decide +kernel
theorem dX11_lay_11 : decode cX11_lay 11 = .ok (.bipush (-101), 2) := by decide +kernel
theorem dX11_lay_13 : decode cX11_lay 13 = .ok (.ireturn, 1) := by decide +kernel
theorem dX11_lay_14 : decode cX11_lay 14 = .ok (.iload_n 2, 1) := by decide +kernel
theorem dX11_lay_15 : decode cX11_lay 15 = .ok (.iconst 0, 1) := by decide +kernel
theorem dX11_lay_16 : decode cX11_lay 16 = .ok (.bipush 9, 2) := by decide +kernel
theorem dX11_lay_18 : decode cX11_lay 18 = .ok (.invokestatic 54, 3) := by decide +kernel
theorem dX11_lay_21 : decode cX11_lay 21 = .ok (.ifCond .ne 6, 3) := by decide +kernel
theorem dX11_lay_24 : decode cX11_lay 24 = .ok (.bipush (-102), 2) := by decide +kernel
theorem dX11_lay_26 : decode cX11_lay 26 = .ok (.ireturn, 1) := by decide +kernel
theorem dX11_lay_27 : decode cX11_lay 27 = .ok (.aload_n 0, 1) := by decide +kernel
theorem dX11_lay_28 : decode cX11_lay 28 = .ok (.getfield 19, 3) := by decide +kernel
theorem dX11_lay_31 : decode cX11_lay 31 = .ok (.getfield 140, 3) := by decide +kernel
theorem dX11_lay_34 : decode cX11_lay 34 = .ok (.iload_n 1, 1) := by decide +kernel
theorem dX11_lay_35 : decode cX11_lay 35 = .ok (.iaload, 1) := by decide +kernel
theorem dX11_lay_36 : decode cX11_lay 36 = .ok (.istore_n 3, 1) := by decide +kernel
theorem dX11_lay_37 : decode cX11_lay 37 = .ok (.aload_n 0, 1) := by decide +kernel
theorem dX11_lay_38 : decode cX11_lay 38 = .ok (.getfield 19, 3) := by decide +kernel
theorem dX11_lay_41 : decode cX11_lay 41 = .ok (.getfield 140, 3) := by decide +kernel
theorem dX11_lay_44 : decode cX11_lay 44 = .ok (.iload_n 1, 1) := by decide +kernel
theorem dX11_lay_45 : decode cX11_lay 45 = .ok (.iload_n 2, 1) := by decide +kernel
theorem dX11_lay_46 : decode cX11_lay 46 = .ok (.iastore, 1) := by decide +kernel
theorem dX11_lay_47 : decode cX11_lay 47 = .ok (.iload_n 3, 1) := by decide +kernel
theorem dX11_lay_48 : decode cX11_lay 48 = .ok (.ireturn, 1) := by decide +kernel
theorem dX11_file_0 : decode cX11_file 0 = .ok (.aload_n 0, 1) := by decide +kernel
theorem dX11_file_1 : decode cX11_file 1 = .ok (.getfield 19, 3) := by decide +kernel
theorem dX11_file_4 : decode cX11_file 4 = .ok (.iload_n 1, 1) := by decide +kernel
theorem dX11_file_5 : decode cX11_file 5 = .ok (.iload_n 2, 1) := by decide +kernel
theorem dX11_file_6 : decode cX11_file 6 = .ok (.invokevirtual 149, 3) := by decide +kernel
theorem dX11_file_9 : decode cX11_file 9 = .ok (.ifCond .ne 6, 3) := by decide +kernel
theorem dX11_file_12 : decode cX11_file 12 = .ok (.bipush (-101), 2) := by decide +kernel
theorem dX11_file_14 : decode cX11_file 14 = .ok (.ireturn, 1) := by decide +kernel
theorem dX11_file_15 : decode cX11_file 15 = .ok (.aload_n 0, 1) := by decide +kernel
theorem dX11_file_16 : decode cX11_file 16 = .ok (.getfield 19, 3) := by decide +kernel
theorem dX11_file_19 : decode cX11_file 19 = .ok (.getfield 166, 3) := by decide +kernel
theorem dX11_file_22 : decode cX11_file 22 = .ok (.iconst 5, 1) := by decide +kernel
theorem dX11_file_23 : decode cX11_file 23 = .ok (.if_icmp .lt 6, 3) := by decide +kernel
theorem dX11_file_26 : decode cX11_file 26 = .ok (.bipush (-104), 2) := by decide +kernel
theorem dX11_file_28 : decode cX11_file 28 = .ok (.ireturn, 1) := by decide +kernel
theorem dX11_file_29 : decode cX11_file 29 = .ok (.aload_n 0, 1) := by decide +kernel
theorem dX11_file_30 : decode cX11_file 30 = .ok (.getfield 19, 3) := by decide +kernel
theorem dX11_file_33 : decode cX11_file 33 = .ok (.getfield 169, 3) := by decide +kernel
theorem dX11_file_36 : decode cX11_file 36 = .ok (.aload_n 0, 1) := by decide +kernel
theorem dX11_file_37 : decode cX11_file 37 = .ok (.getfield 19, 3) := by decide +kernel
theorem dX11_file_40 : decode cX11_file 40 = .ok (.getfield 166, 3) := by decide +kernel
theorem dX11_file_43 : decode cX11_file 43 = .ok (.iload_n 1, 1) := by decide +kernel
theorem dX11_file_44 : decode cX11_file 44 = .ok (.iastore, 1) := by decide +kernel
theorem dX11_file_45 : decode cX11_file 45 = .ok (.aload_n 0, 1) := by decide +kernel
theorem dX11_file_46 : decode cX11_file 46 = .ok (.getfield 19, 3) := by decide +kernel
theorem dX11_file_49 : decode cX11_file 49 = .ok (.getfield 172, 3) := by decide +kernel
theorem dX11_file_52 : decode cX11_file 52 = .ok (.aload_n 0, 1) := by decide +kernel
theorem dX11_file_53 : decode cX11_file 53 = .ok (.getfield 19, 3) := by decide +kernel
theorem dX11_file_56 : decode cX11_file 56 = .ok (.getfield 166, 3) := by decide +kernel
theorem dX11_file_59 : decode cX11_file 59 = .ok (.iload_n 2, 1) := by decide +kernel
theorem dX11_file_60 : decode cX11_file 60 = .ok (.iastore, 1) := by decide +kernel
theorem dX11_file_61 : decode cX11_file 61 = .ok (.aload_n 0, 1) := by decide +kernel
theorem dX11_file_62 : decode cX11_file 62 = .ok (.getfield 19, 3) := by decide +kernel
theorem dX11_file_65 : decode cX11_file 65 = .ok (.dup, 1) := by decide +kernel
theorem dX11_file_66 : decode cX11_file 66 = .ok (.getfield 166, 3) := by decide +kernel
theorem dX11_file_69 : decode cX11_file 69 = .ok (.iconst 1, 1) := by decide +kernel
theorem dX11_file_70 : decode cX11_file 70 = .ok (.iadd, 1) := by decide +kernel
theorem dX11_file_71 : decode cX11_file 71 = .ok (.putfield 166, 3) := by decide +kernel
theorem dX11_file_74 : decode cX11_file 74 = .ok (.aload_n 0, 1) := by decide +kernel
theorem dX11_file_75 : decode cX11_file 75 = .ok (.getfield 19, 3) := by decide +kernel
theorem dX11_file_78 : decode cX11_file 78 = .ok (.getfield 166, 3) := by decide +kernel
theorem dX11_file_81 : decode cX11_file 81 = .ok (.ireturn, 1) := by decide +kernel
theorem dX11_settle_0 : decode cX11_settle 0 = .ok (.aload_n 0, 1) := by decide +kernel
theorem dX11_settle_1 : decode cX11_settle 1 = .ok (.getfield 19, 3) := by decide +kernel
theorem dX11_settle_4 : decode cX11_settle 4 = .ok (.getfield 166, 3) := by decide +kernel
theorem dX11_settle_7 : decode cX11_settle 7 = .ok (.istore_n 1, 1) := by decide +kernel
theorem dX11_settle_8 : decode cX11_settle 8 = .ok (.aload_n 0, 1) := by decide +kernel
theorem dX11_settle_9 : decode cX11_settle 9 = .ok (.getfield 19, 3) := by decide +kernel
theorem dX11_settle_12 : decode cX11_settle 12 = .ok (.iconst 0, 1) := by decide +kernel
theorem dX11_settle_13 : decode cX11_settle 13 = .ok (.putfield 166, 3) := by decide +kernel
theorem dX11_settle_16 : decode cX11_settle 16 = .ok (.iload_n 1, 1) := by decide +kernel
theorem dX11_settle_17 : decode cX11_settle 17 = .ok (.ireturn, 1) := by decide +kernel
theorem dX11_terms_0 : decode cX11_terms 0 = .ok (.iload_n 1, 1) := by decide +kernel
theorem dX11_terms_1 : decode cX11_terms 1 = .ok (.iconst 1, 1) := by decide +kernel
theorem dX11_terms_2 : decode cX11_terms 2 = .ok (.bipush 60, 2) := by decide +kernel
theorem dX11_terms_4 : decode cX11_terms 4 = .ok (.invokestatic 54, 3) := by decide +kernel
theorem dX11_terms_7 : decode cX11_terms 7 = .ok (.ifCond .eq 16, 3) := by decide +kernel
theorem dX11_terms_10 : decode cX11_terms 10 = .ok (.iload_n 2, 1) := by decide +kernel
theorem dX11_terms_11 : decode cX11_terms 11 = .ok (.ifCond .lt 12, 3) := by decide +kernel
theorem dX11_terms_14 : decode cX11_terms 14 = .ok (.iload_n 3, 1) := by decide +kernel
theorem dX11_terms_15 : decode cX11_terms 15 = .ok (.iconst 0, 1) := by decide +kernel
theorem dX11_terms_16 : decode cX11_terms 16 = .ok (.iconst 2, 1) := by decide +kernel
theorem dX11_terms_17 : decode cX11_terms 17 = .ok (.invokestatic 54, 3) := by decide +kernel
theorem dX11_terms_20 : decode cX11_terms 20 = .ok (.ifCond .ne 6, 3) := by decide +kernel
theorem dX11_terms_23 : decode cX11_terms 23 = .ok (.bipush (-102), 2) := by decide +kernel
theorem dX11_terms_25 : decode cX11_terms 25 = .ok (.ireturn, 1) := by decide +kernel
theorem dX11_terms_26 : decode cX11_terms 26 = .ok (.aload_n 0, 1) := by decide +kernel
theorem dX11_terms_27 : decode cX11_terms 27 = .ok (.getfield 19, 3) := by decide +kernel
theorem dX11_terms_30 : decode cX11_terms 30 = .ok (.invokevirtual 157, 3) := by decide +kernel
theorem dX11_terms_33 : decode cX11_terms 33 = .ok (.ifCond .eq 6, 3) := by decide +kernel
theorem dX11_terms_36 : decode cX11_terms 36 = .ok (.bipush (-103), 2) := by decide +kernel
theorem dX11_terms_38 : decode cX11_terms 38 = .ok (.ireturn, 1) := by decide +kernel
theorem dX11_terms_39 : decode cX11_terms 39 = .ok (.aload_n 0, 1) := by decide +kernel
theorem dX11_terms_40 : decode cX11_terms 40 = .ok (.getfield 50, 3) := by decide +kernel
theorem dX11_terms_43 : decode cX11_terms 43 = .ok (.aload_n 0, 1) := by decide +kernel
theorem dX11_terms_44 : decode cX11_terms 44 = .ok (.getfield 19, 3) := by decide +kernel
theorem dX11_terms_47 : decode cX11_terms 47 = .ok (.iload_n 1, 1) := by decide +kernel
theorem dX11_terms_48 : decode cX11_terms 48 = .ok (.iload_n 2, 1) := by decide +kernel
theorem dX11_terms_49 : decode cX11_terms 49 = .ok (.invokevirtual 214, 3) := by decide +kernel
theorem dX11_terms_52 : decode cX11_terms 52 = .ok (.iload_n 3, 1) := by decide +kernel
theorem dX11_terms_53 : decode cX11_terms 53 = .ok (.ifCond .ne 11, 3) := by decide +kernel
theorem dX11_terms_56 : decode cX11_terms 56 = .ok (.aload_n 0, 1) := by decide +kernel
theorem dX11_terms_57 : decode cX11_terms 57 = .ok (.getfield 50, 3) := by decide +kernel
theorem dX11_terms_60 : decode cX11_terms 60 = .ok (.getfield 218, 3) := by decide +kernel
theorem dX11_terms_63 : decode cX11_terms 63 = .ok (.ireturn, 1) := by decide +kernel
theorem dX11_terms_64 : decode cX11_terms 64 = .ok (.iload_n 3, 1) := by decide +kernel
theorem dX11_terms_65 : decode cX11_terms 65 = .ok (.iconst 1, 1) := by decide +kernel
theorem dX11_terms_66 : decode cX11_terms 66 = .ok (.if_icmp .ne 13, 3) := by decide +kernel
theorem dX11_terms_69 : decode cX11_terms 69 = .ok (.aload_n 0, 1) := by decide +kernel
theorem dX11_terms_70 : decode cX11_terms 70 = .ok (.getfield 50, 3) := by decide +kernel
theorem dX11_terms_73 : decode cX11_terms 73 = .ok (.getfield 221, 3) := by decide +kernel
theorem dX11_terms_76 : decode cX11_terms 76 = .ok (.goto 11, 3) := by decide +kernel
theorem dX11_terms_79 : decode cX11_terms 79 = .ok (.aload_n 0, 1) := by decide +kernel
theorem dX11_terms_80 : decode cX11_terms 80 = .ok (.getfield 50, 3) := by decide +kernel
theorem dX11_terms_83 : decode cX11_terms 83 = .ok (.getfield 224, 3) := by decide +kernel
theorem dX11_terms_86 : decode cX11_terms 86 = .ok (.l2i, 1) := by decide +kernel
theorem dX11_terms_87 : decode cX11_terms 87 = .ok (.ireturn, 1) := by decide +kernel
theorem dX11_count_0 : decode cX11_count 0 = .ok (.iload_n 1, 1) := by decide +kernel
theorem dX11_count_1 : decode cX11_count 1 = .ok (.tableswitch 149 0 10 #[59, 67, 75, 83, 94, 103, 112, 120, 128, 136, 144], 59) := by decide +kernel
theorem dX11_count_60 : decode cX11_count 60 = .ok (.aload_n 0, 1) := by decide +kernel
theorem dX11_count_61 : decode cX11_count 61 = .ok (.getfield 19, 3) := by decide +kernel
theorem dX11_count_64 : decode cX11_count 64 = .ok (.getfield 85, 3) := by decide +kernel
theorem dX11_count_67 : decode cX11_count 67 = .ok (.ireturn, 1) := by decide +kernel
theorem dX11_count_68 : decode cX11_count 68 = .ok (.aload_n 0, 1) := by decide +kernel
theorem dX11_count_69 : decode cX11_count 69 = .ok (.getfield 19, 3) := by decide +kernel
theorem dX11_count_72 : decode cX11_count 72 = .ok (.getfield 108, 3) := by decide +kernel
theorem dX11_count_75 : decode cX11_count 75 = .ok (.ireturn, 1) := by decide +kernel
theorem dX11_count_76 : decode cX11_count 76 = .ok (.aload_n 0, 1) := by decide +kernel
theorem dX11_count_77 : decode cX11_count 77 = .ok (.getfield 19, 3) := by decide +kernel
theorem dX11_count_80 : decode cX11_count 80 = .ok (.getfield 160, 3) := by decide +kernel
theorem dX11_count_83 : decode cX11_count 83 = .ok (.ireturn, 1) := by decide +kernel
theorem dX11_count_84 : decode cX11_count 84 = .ok (.aload_n 0, 1) := by decide +kernel
theorem dX11_count_85 : decode cX11_count 85 = .ok (.getfield 19, 3) := by decide +kernel
theorem dX11_count_88 : decode cX11_count 88 = .ok (.sipush 1023, 3) := by decide +kernel
theorem dX11_count_91 : decode cX11_count 91 = .ok (.invokevirtual 115, 3) := by decide +kernel
theorem dX11_count_94 : decode cX11_count 94 = .ok (.ireturn, 1) := by decide +kernel
theorem dX11_count_95 : decode cX11_count 95 = .ok (.aload_n 0, 1) := by decide +kernel
theorem dX11_count_96 : decode cX11_count 96 = .ok (.getfield 19, 3) := by decide +kernel
theorem dX11_count_99 : decode cX11_count 99 = .ok (.iconst 1, 1) := by decide +kernel
theorem dX11_count_100 : decode cX11_count 100 = .ok (.invokevirtual 234, 3) := by decide +kernel
theorem dX11_count_103 : decode cX11_count 103 = .ok (.ireturn, 1) := by decide +kernel
theorem dX11_count_104 : decode cX11_count 104 = .ok (.aload_n 0, 1) := by decide +kernel
theorem dX11_count_105 : decode cX11_count 105 = .ok (.getfield 19, 3) := by decide +kernel
theorem dX11_count_108 : decode cX11_count 108 = .ok (.iconst 2, 1) := by decide +kernel
theorem dX11_count_109 : decode cX11_count 109 = .ok (.invokevirtual 234, 3) := by decide +kernel
theorem dX11_count_112 : decode cX11_count 112 = .ok (.ireturn, 1) := by decide +kernel
theorem dX11_count_113 : decode cX11_count 113 = .ok (.aload_n 0, 1) := by decide +kernel
theorem dX11_count_114 : decode cX11_count 114 = .ok (.getfield 19, 3) := by decide +kernel
theorem dX11_count_117 : decode cX11_count 117 = .ok (.getfield 166, 3) := by decide +kernel
theorem dX11_count_120 : decode cX11_count 120 = .ok (.ireturn, 1) := by decide +kernel
theorem dX11_count_121 : decode cX11_count 121 = .ok (.aload_n 0, 1) := by decide +kernel
theorem dX11_count_122 : decode cX11_count 122 = .ok (.getfield 19, 3) := by decide +kernel
theorem dX11_count_125 : decode cX11_count 125 = .ok (.invokevirtual 237, 3) := by decide +kernel
theorem dX11_count_128 : decode cX11_count 128 = .ok (.ireturn, 1) := by decide +kernel
theorem dX11_count_129 : decode cX11_count 129 = .ok (.aload_n 0, 1) := by decide +kernel
theorem dX11_count_130 : decode cX11_count 130 = .ok (.getfield 19, 3) := by decide +kernel
theorem dX11_count_133 : decode cX11_count 133 = .ok (.getfield 199, 3) := by decide +kernel
theorem dX11_count_136 : decode cX11_count 136 = .ok (.ireturn, 1) := by decide +kernel
theorem dX11_count_137 : decode cX11_count 137 = .ok (.aload_n 0, 1) := by decide +kernel
theorem dX11_count_138 : decode cX11_count 138 = .ok (.getfield 10, 3) := by decide +kernel
theorem dX11_count_141 : decode cX11_count 141 = .ok (.getfield 58, 3) := by decide +kernel
theorem dX11_count_144 : decode cX11_count 144 = .ok (.ireturn, 1) := by decide +kernel
theorem dX11_count_145 : decode cX11_count 145 = .ok (.aload_n 0, 1) := by decide +kernel
theorem dX11_count_146 : decode cX11_count 146 = .ok (.getfield 82, 3) := by decide +kernel
theorem dX11_count_149 : decode cX11_count 149 = .ok (.ireturn, 1) := by decide +kernel
theorem dX11_count_150 : decode cX11_count 150 = .ok (.bipush (-102), 2) := by decide +kernel
theorem dX11_count_152 : decode cX11_count 152 = .ok (.ireturn, 1) := by decide +kernel
theorem dX11_within_0 : decode cX11_within 0 = .ok (.iload_n 0, 1) := by decide +kernel
theorem dX11_within_1 : decode cX11_within 1 = .ok (.iload_n 1, 1) := by decide +kernel
theorem dX11_within_2 : decode cX11_within 2 = .ok (.if_icmp .lt 12, 3) := by decide +kernel
theorem dX11_within_5 : decode cX11_within 5 = .ok (.iload_n 0, 1) := by decide +kernel
theorem dX11_within_6 : decode cX11_within 6 = .ok (.iload_n 2, 1) := by decide +kernel
theorem dX11_within_7 : decode cX11_within 7 = .ok (.if_icmp .gt 7, 3) := by decide +kernel
theorem dX11_within_10 : decode cX11_within 10 = .ok (.iconst 1, 1) := by decide +kernel
theorem dX11_within_11 : decode cX11_within 11 = .ok (.goto 4, 3) := by decide +kernel
theorem dX11_within_14 : decode cX11_within 14 = .ok (.iconst 0, 1) := by decide +kernel
theorem dX11_within_15 : decode cX11_within 15 = .ok (.ireturn, 1) := by decide +kernel
theorem dX11_isTile_0 : decode cX11_isTile 0 = .ok (.iload_n 0, 1) := by decide +kernel
theorem dX11_isTile_1 : decode cX11_isTile 1 = .ok (.ifCond .lt 13, 3) := by decide +kernel
theorem dX11_isTile_4 : decode cX11_isTile 4 = .ok (.iload_n 0, 1) := by decide +kernel
theorem dX11_isTile_5 : decode cX11_isTile 5 = .ok (.bipush 10, 2) := by decide +kernel
theorem dX11_isTile_7 : decode cX11_isTile 7 = .ok (.if_icmp .ge 7, 3) := by decide +kernel
theorem dX11_isTile_10 : decode cX11_isTile 10 = .ok (.iconst 1, 1) := by decide +kernel
theorem dX11_isTile_11 : decode cX11_isTile 11 = .ok (.goto 4, 3) := by decide +kernel
theorem dX11_isTile_14 : decode cX11_isTile 14 = .ok (.iconst 0, 1) := by decide +kernel
theorem dX11_isTile_15 : decode cX11_isTile 15 = .ok (.ireturn, 1) := by decide +kernel
theorem dX11_isHour_0 : decode cX11_isHour 0 = .ok (.iload_n 0, 1) := by decide +kernel
theorem dX11_isHour_1 : decode cX11_isHour 1 = .ok (.ifCond .lt 13, 3) := by decide +kernel
theorem dX11_isHour_4 : decode cX11_isHour 4 = .ok (.iload_n 0, 1) := by decide +kernel
theorem dX11_isHour_5 : decode cX11_isHour 5 = .ok (.bipush 13, 2) := by decide +kernel
theorem dX11_isHour_7 : decode cX11_isHour 7 = .ok (.if_icmp .ge 7, 3) := by decide +kernel
theorem dX11_isHour_10 : decode cX11_isHour 10 = .ok (.iconst 1, 1) := by decide +kernel
theorem dX11_isHour_11 : decode cX11_isHour 11 = .ok (.goto 4, 3) := by decide +kernel
theorem dX11_isHour_14 : decode cX11_isHour 14 = .ok (.iconst 0, 1) := by decide +kernel
theorem dX11_isHour_15 : decode cX11_isHour 15 = .ok (.ireturn, 1) := by decide +kernel
theorem dJ6_bitCount_0f7a4_0 : decode cJ6_bitCount_0f7a4 0 = .ok (.iload_n 0, 1) := by decide +kernel
theorem dJ6_bitCount_0f7a4_1 : decode cJ6_bitCount_0f7a4 1 = .ok (.iload_n 0, 1) := by decide +kernel
theorem dJ6_bitCount_0f7a4_2 : decode cJ6_bitCount_0f7a4 2 = .ok (.iconst 1, 1) := by decide +kernel
theorem dJ6_bitCount_0f7a4_3 : decode cJ6_bitCount_0f7a4 3 = .ok (.iushr, 1) := by decide +kernel
theorem dJ6_bitCount_0f7a4_4 : decode cJ6_bitCount_0f7a4 4 = .ok (.ldc_w 265, 3) := by decide +kernel
theorem dJ6_bitCount_0f7a4_7 : decode cJ6_bitCount_0f7a4 7 = .ok (.iand, 1) := by decide +kernel
theorem dJ6_bitCount_0f7a4_8 : decode cJ6_bitCount_0f7a4 8 = .ok (.isub, 1) := by decide +kernel
theorem dJ6_bitCount_0f7a4_9 : decode cJ6_bitCount_0f7a4 9 = .ok (.istore_n 0, 1) := by decide +kernel
theorem dJ6_bitCount_0f7a4_10 : decode cJ6_bitCount_0f7a4 10 = .ok (.iload_n 0, 1) := by decide +kernel
theorem dJ6_bitCount_0f7a4_11 : decode cJ6_bitCount_0f7a4 11 = .ok (.ldc_w 266, 3) := by decide +kernel
theorem dJ6_bitCount_0f7a4_14 : decode cJ6_bitCount_0f7a4 14 = .ok (.iand, 1) := by decide +kernel
theorem dJ6_bitCount_0f7a4_15 : decode cJ6_bitCount_0f7a4 15 = .ok (.iload_n 0, 1) := by decide +kernel
theorem dJ6_bitCount_0f7a4_16 : decode cJ6_bitCount_0f7a4 16 = .ok (.iconst 2, 1) := by decide +kernel
theorem dJ6_bitCount_0f7a4_17 : decode cJ6_bitCount_0f7a4 17 = .ok (.iushr, 1) := by decide +kernel
theorem dJ6_bitCount_0f7a4_18 : decode cJ6_bitCount_0f7a4 18 = .ok (.ldc_w 266, 3) := by decide +kernel
theorem dJ6_bitCount_0f7a4_21 : decode cJ6_bitCount_0f7a4 21 = .ok (.iand, 1) := by decide +kernel
theorem dJ6_bitCount_0f7a4_22 : decode cJ6_bitCount_0f7a4 22 = .ok (.iadd, 1) := by decide +kernel
theorem dJ6_bitCount_0f7a4_23 : decode cJ6_bitCount_0f7a4 23 = .ok (.istore_n 0, 1) := by decide +kernel
theorem dJ6_bitCount_0f7a4_24 : decode cJ6_bitCount_0f7a4 24 = .ok (.iload_n 0, 1) := by decide +kernel
theorem dJ6_bitCount_0f7a4_25 : decode cJ6_bitCount_0f7a4 25 = .ok (.iload_n 0, 1) := by decide +kernel
theorem dJ6_bitCount_0f7a4_26 : decode cJ6_bitCount_0f7a4 26 = .ok (.iconst 4, 1) := by decide +kernel
theorem dJ6_bitCount_0f7a4_27 : decode cJ6_bitCount_0f7a4 27 = .ok (.iushr, 1) := by decide +kernel
theorem dJ6_bitCount_0f7a4_28 : decode cJ6_bitCount_0f7a4 28 = .ok (.iadd, 1) := by decide +kernel
theorem dJ6_bitCount_0f7a4_29 : decode cJ6_bitCount_0f7a4 29 = .ok (.ldc_w 267, 3) := by decide +kernel
theorem dJ6_bitCount_0f7a4_32 : decode cJ6_bitCount_0f7a4 32 = .ok (.iand, 1) := by decide +kernel
theorem dJ6_bitCount_0f7a4_33 : decode cJ6_bitCount_0f7a4 33 = .ok (.istore_n 0, 1) := by decide +kernel
theorem dJ6_bitCount_0f7a4_34 : decode cJ6_bitCount_0f7a4 34 = .ok (.iload_n 0, 1) := by decide +kernel
theorem dJ6_bitCount_0f7a4_35 : decode cJ6_bitCount_0f7a4 35 = .ok (.iload_n 0, 1) := by decide +kernel
theorem dJ6_bitCount_0f7a4_36 : decode cJ6_bitCount_0f7a4 36 = .ok (.bipush 8, 2) := by decide +kernel
theorem dJ6_bitCount_0f7a4_38 : decode cJ6_bitCount_0f7a4 38 = .ok (.iushr, 1) := by decide +kernel
theorem dJ6_bitCount_0f7a4_39 : decode cJ6_bitCount_0f7a4 39 = .ok (.iadd, 1) := by decide +kernel
theorem dJ6_bitCount_0f7a4_40 : decode cJ6_bitCount_0f7a4 40 = .ok (.istore_n 0, 1) := by decide +kernel
theorem dJ6_bitCount_0f7a4_41 : decode cJ6_bitCount_0f7a4 41 = .ok (.iload_n 0, 1) := by decide +kernel
theorem dJ6_bitCount_0f7a4_42 : decode cJ6_bitCount_0f7a4 42 = .ok (.iload_n 0, 1) := by decide +kernel
theorem dJ6_bitCount_0f7a4_43 : decode cJ6_bitCount_0f7a4 43 = .ok (.bipush 16, 2) := by decide +kernel
theorem dJ6_bitCount_0f7a4_45 : decode cJ6_bitCount_0f7a4 45 = .ok (.iushr, 1) := by decide +kernel
theorem dJ6_bitCount_0f7a4_46 : decode cJ6_bitCount_0f7a4 46 = .ok (.iadd, 1) := by decide +kernel
theorem dJ6_bitCount_0f7a4_47 : decode cJ6_bitCount_0f7a4 47 = .ok (.istore_n 0, 1) := by decide +kernel
theorem dJ6_bitCount_0f7a4_48 : decode cJ6_bitCount_0f7a4 48 = .ok (.iload_n 0, 1) := by decide +kernel
theorem dJ6_bitCount_0f7a4_49 : decode cJ6_bitCount_0f7a4 49 = .ok (.bipush 63, 2) := by decide +kernel
theorem dJ6_bitCount_0f7a4_51 : decode cJ6_bitCount_0f7a4 51 = .ok (.iand, 1) := by decide +kernel
theorem dJ6_bitCount_0f7a4_52 : decode cJ6_bitCount_0f7a4 52 = .ok (.ireturn, 1) := by decide +kernel
theorem dJ0_length_8abf5_0 : decode cJ0_length_8abf5 0 = .ok (.aload_n 0, 1) := by decide +kernel
theorem dJ0_length_8abf5_1 : decode cJ0_length_8abf5 1 = .ok (.getfield 9, 3) := by decide +kernel
theorem dJ0_length_8abf5_4 : decode cJ0_length_8abf5 4 = .ok (.arraylength, 1) := by decide +kernel
theorem dJ0_length_8abf5_5 : decode cJ0_length_8abf5 5 = .ok (.aload_n 0, 1) := by decide +kernel
theorem dJ0_length_8abf5_6 : decode cJ0_length_8abf5 6 = .ok (.invokevirtual 335, 3) := by decide +kernel
theorem dJ0_length_8abf5_9 : decode cJ0_length_8abf5 9 = .ok (.ishr, 1) := by decide +kernel
theorem dJ0_length_8abf5_10 : decode cJ0_length_8abf5 10 = .ok (.ireturn, 1) := by decide +kernel
theorem dJ0_indexOf_0f7a4_0 : decode cJ0_indexOf_0f7a4 0 = .ok (.aload_n 0, 1) := by decide +kernel
theorem dJ0_indexOf_0f7a4_1 : decode cJ0_indexOf_0f7a4 1 = .ok (.iload_n 1, 1) := by decide +kernel
theorem dJ0_indexOf_0f7a4_2 : decode cJ0_indexOf_0f7a4 2 = .ok (.iconst 0, 1) := by decide +kernel
theorem dJ0_indexOf_0f7a4_3 : decode cJ0_indexOf_0f7a4 3 = .ok (.invokevirtual 633, 3) := by decide +kernel
theorem dJ0_indexOf_0f7a4_6 : decode cJ0_indexOf_0f7a4 6 = .ok (.ireturn, 1) := by decide +kernel
theorem dJ0_indexOf_7cf53_0 : decode cJ0_indexOf_7cf53 0 = .ok (.aload_n 0, 1) := by decide +kernel
theorem dJ0_indexOf_7cf53_1 : decode cJ0_indexOf_7cf53 1 = .ok (.invokevirtual 492, 3) := by decide +kernel
theorem dJ0_indexOf_7cf53_4 : decode cJ0_indexOf_7cf53 4 = .ok (.ifCond .eq 19, 3) := by decide +kernel
theorem dJ0_indexOf_7cf53_7 : decode cJ0_indexOf_7cf53 7 = .ok (.aload_n 0, 1) := by decide +kernel
theorem dJ0_indexOf_7cf53_8 : decode cJ0_indexOf_7cf53 8 = .ok (.getfield 9, 3) := by decide +kernel
theorem dJ0_indexOf_7cf53_11 : decode cJ0_indexOf_7cf53 11 = .ok (.iload_n 1, 1) := by decide +kernel
theorem dJ0_indexOf_7cf53_12 : decode cJ0_indexOf_7cf53 12 = .ok (.iload_n 2, 1) := by decide +kernel
theorem dJ0_indexOf_7cf53_13 : decode cJ0_indexOf_7cf53 13 = .ok (.aload_n 0, 1) := by decide +kernel
theorem dJ0_indexOf_7cf53_14 : decode cJ0_indexOf_7cf53 14 = .ok (.invokevirtual 505, 3) := by decide +kernel
theorem dJ0_indexOf_7cf53_17 : decode cJ0_indexOf_7cf53 17 = .ok (.invokestatic 637, 3) := by decide +kernel
theorem dJ0_indexOf_7cf53_20 : decode cJ0_indexOf_7cf53 20 = .ok (.goto 16, 3) := by decide +kernel
theorem dJ0_indexOf_7cf53_36 : decode cJ0_indexOf_7cf53 36 = .ok (.ireturn, 1) := by decide +kernel
theorem dJ0_coder_7d493_0 : decode cJ0_coder_7d493 0 = .ok (.getstatic 38, 3) := by decide +kernel
theorem dJ0_coder_7d493_3 : decode cJ0_coder_7d493 3 = .ok (.ifCond .eq 10, 3) := by decide +kernel
theorem dJ0_coder_7d493_6 : decode cJ0_coder_7d493 6 = .ok (.aload_n 0, 1) := by decide +kernel
theorem dJ0_coder_7d493_7 : decode cJ0_coder_7d493 7 = .ok (.getfield 15, 3) := by decide +kernel
theorem dJ0_coder_7d493_10 : decode cJ0_coder_7d493 10 = .ok (.goto 4, 3) := by decide +kernel
theorem dJ0_coder_7d493_13 : decode cJ0_coder_7d493 13 = .ok (.iconst 1, 1) := by decide +kernel
theorem dJ0_coder_7d493_14 : decode cJ0_coder_7d493 14 = .ok (.ireturn, 1) := by decide +kernel
theorem dJ0_isLatin1_aae02_0 : decode cJ0_isLatin1_aae02 0 = .ok (.getstatic 38, 3) := by decide +kernel
theorem dJ0_isLatin1_aae02_3 : decode cJ0_isLatin1_aae02 3 = .ok (.ifCond .eq 14, 3) := by decide +kernel
theorem dJ0_isLatin1_aae02_6 : decode cJ0_isLatin1_aae02 6 = .ok (.aload_n 0, 1) := by decide +kernel
theorem dJ0_isLatin1_aae02_7 : decode cJ0_isLatin1_aae02 7 = .ok (.getfield 15, 3) := by decide +kernel
theorem dJ0_isLatin1_aae02_10 : decode cJ0_isLatin1_aae02 10 = .ok (.ifCond .ne 7, 3) := by decide +kernel
theorem dJ0_isLatin1_aae02_13 : decode cJ0_isLatin1_aae02 13 = .ok (.iconst 1, 1) := by decide +kernel
theorem dJ0_isLatin1_aae02_14 : decode cJ0_isLatin1_aae02 14 = .ok (.goto 4, 3) := by decide +kernel
theorem dJ0_isLatin1_aae02_17 : decode cJ0_isLatin1_aae02 17 = .ok (.iconst 0, 1) := by decide +kernel
theorem dJ0_isLatin1_aae02_18 : decode cJ0_isLatin1_aae02 18 = .ok (.ireturn, 1) := by decide +kernel
theorem dJ1_canEncode_9a6ad_0 : decode cJ1_canEncode_9a6ad 0 = .ok (.iload_n 0, 1) := by decide +kernel
theorem dJ1_canEncode_9a6ad_1 : decode cJ1_canEncode_9a6ad 1 = .ok (.ifCond .lt 14, 3) := by decide +kernel
theorem dJ1_canEncode_9a6ad_4 : decode cJ1_canEncode_9a6ad 4 = .ok (.iload_n 0, 1) := by decide +kernel
theorem dJ1_canEncode_9a6ad_5 : decode cJ1_canEncode_9a6ad 5 = .ok (.sipush 255, 3) := by decide +kernel
theorem dJ1_canEncode_9a6ad_8 : decode cJ1_canEncode_9a6ad 8 = .ok (.if_icmp .gt 7, 3) := by decide +kernel
theorem dJ1_canEncode_9a6ad_11 : decode cJ1_canEncode_9a6ad 11 = .ok (.iconst 1, 1) := by decide +kernel
theorem dJ1_canEncode_9a6ad_12 : decode cJ1_canEncode_9a6ad 12 = .ok (.goto 4, 3) := by decide +kernel
theorem dJ1_canEncode_9a6ad_15 : decode cJ1_canEncode_9a6ad 15 = .ok (.iconst 0, 1) := by decide +kernel
theorem dJ1_canEncode_9a6ad_16 : decode cJ1_canEncode_9a6ad 16 = .ok (.ireturn, 1) := by decide +kernel
theorem dJ1_indexOf_4cfef_0 : decode cJ1_indexOf_4cfef 0 = .ok (.iload_n 1, 1) := by decide +kernel
theorem dJ1_indexOf_4cfef_1 : decode cJ1_indexOf_4cfef 1 = .ok (.invokestatic 88, 3) := by decide +kernel
theorem dJ1_indexOf_4cfef_4 : decode cJ1_indexOf_4cfef 4 = .ok (.ifCond .ne 5, 3) := by decide +kernel
theorem dJ1_indexOf_4cfef_7 : decode cJ1_indexOf_4cfef 7 = .ok (.iconst (-1), 1) := by decide +kernel
theorem dJ1_indexOf_4cfef_8 : decode cJ1_indexOf_4cfef 8 = .ok (.ireturn, 1) := by decide +kernel
theorem dJ1_indexOf_4cfef_9 : decode cJ1_indexOf_4cfef 9 = .ok (.iload_n 2, 1) := by decide +kernel
theorem dJ1_indexOf_4cfef_10 : decode cJ1_indexOf_4cfef 10 = .ok (.iconst 0, 1) := by decide +kernel
theorem dJ1_indexOf_4cfef_11 : decode cJ1_indexOf_4cfef 11 = .ok (.invokestatic 92, 3) := by decide +kernel
theorem dJ1_indexOf_4cfef_14 : decode cJ1_indexOf_4cfef 14 = .ok (.istore_n 2, 1) := by decide +kernel
theorem dJ1_indexOf_4cfef_15 : decode cJ1_indexOf_4cfef 15 = .ok (.iload_n 3, 1) := by decide +kernel
theorem dJ1_indexOf_4cfef_16 : decode cJ1_indexOf_4cfef 16 = .ok (.aload_n 0, 1) := by decide +kernel
theorem dJ1_indexOf_4cfef_17 : decode cJ1_indexOf_4cfef 17 = .ok (.arraylength, 1) := by decide +kernel
theorem dJ1_indexOf_4cfef_18 : decode cJ1_indexOf_4cfef 18 = .ok (.invokestatic 38, 3) := by decide +kernel
theorem dJ1_indexOf_4cfef_21 : decode cJ1_indexOf_4cfef 21 = .ok (.istore_n 3, 1) := by decide +kernel
theorem dJ1_indexOf_4cfef_22 : decode cJ1_indexOf_4cfef 22 = .ok (.iload_n 2, 1) := by decide +kernel
theorem dJ1_indexOf_4cfef_23 : decode cJ1_indexOf_4cfef 23 = .ok (.iload_n 3, 1) := by decide +kernel
theorem dJ1_indexOf_4cfef_24 : decode cJ1_indexOf_4cfef 24 = .ok (.if_icmp .lt 5, 3) := by decide +kernel
theorem dJ1_indexOf_4cfef_27 : decode cJ1_indexOf_4cfef 27 = .ok (.iconst (-1), 1) := by decide +kernel
theorem dJ1_indexOf_4cfef_28 : decode cJ1_indexOf_4cfef 28 = .ok (.ireturn, 1) := by decide +kernel
theorem dJ1_indexOf_4cfef_29 : decode cJ1_indexOf_4cfef 29 = .ok (.aload_n 0, 1) := by decide +kernel
theorem dJ1_indexOf_4cfef_30 : decode cJ1_indexOf_4cfef 30 = .ok (.iload_n 1, 1) := by decide +kernel
theorem dJ1_indexOf_4cfef_31 : decode cJ1_indexOf_4cfef 31 = .ok (.iload_n 2, 1) := by decide +kernel
theorem dJ1_indexOf_4cfef_32 : decode cJ1_indexOf_4cfef 32 = .ok (.iload_n 3, 1) := by decide +kernel
theorem dJ1_indexOf_4cfef_33 : decode cJ1_indexOf_4cfef 33 = .ok (.invokestatic 95, 3) := by decide +kernel
theorem dJ1_indexOf_4cfef_36 : decode cJ1_indexOf_4cfef 36 = .ok (.ireturn, 1) := by decide +kernel
theorem dJ1_indexOfChar_4cfef_0 : decode cJ1_indexOfChar_4cfef 0 = .ok (.iload_n 1, 1) := by decide +kernel
theorem dJ1_indexOfChar_4cfef_1 : decode cJ1_indexOfChar_4cfef 1 = .ok (.i2b, 1) := by decide +kernel
theorem dJ1_indexOfChar_4cfef_2 : decode cJ1_indexOfChar_4cfef 2 = .ok (.istore 4, 2) := by decide +kernel
theorem dJ1_indexOfChar_4cfef_4 : decode cJ1_indexOfChar_4cfef 4 = .ok (.iload_n 2, 1) := by decide +kernel
theorem dJ1_indexOfChar_4cfef_5 : decode cJ1_indexOfChar_4cfef 5 = .ok (.istore 5, 2) := by decide +kernel
theorem dJ1_indexOfChar_4cfef_7 : decode cJ1_indexOfChar_4cfef 7 = .ok (.iload 5, 2) := by decide +kernel
theorem dJ1_indexOfChar_4cfef_9 : decode cJ1_indexOfChar_4cfef 9 = .ok (.iload_n 3, 1) := by decide +kernel
theorem dJ1_indexOfChar_4cfef_10 : decode cJ1_indexOfChar_4cfef 10 = .ok (.if_icmp .ge 21, 3) := by decide +kernel
theorem dJ1_indexOfChar_4cfef_13 : decode cJ1_indexOfChar_4cfef 13 = .ok (.aload_n 0, 1) := by decide +kernel
theorem dJ1_indexOfChar_4cfef_14 : decode cJ1_indexOfChar_4cfef 14 = .ok (.iload 5, 2) := by decide +kernel
theorem dJ1_indexOfChar_4cfef_16 : decode cJ1_indexOfChar_4cfef 16 = .ok (.baload, 1) := by decide +kernel
theorem dJ1_indexOfChar_4cfef_17 : decode cJ1_indexOfChar_4cfef 17 = .ok (.iload 4, 2) := by decide +kernel
theorem dJ1_indexOfChar_4cfef_19 : decode cJ1_indexOfChar_4cfef 19 = .ok (.if_icmp .ne 6, 3) := by decide +kernel
theorem dJ1_indexOfChar_4cfef_22 : decode cJ1_indexOfChar_4cfef 22 = .ok (.iload 5, 2) := by decide +kernel
theorem dJ1_indexOfChar_4cfef_24 : decode cJ1_indexOfChar_4cfef 24 = .ok (.ireturn, 1) := by decide +kernel
theorem dJ1_indexOfChar_4cfef_25 : decode cJ1_indexOfChar_4cfef 25 = .ok (.iinc 5 1, 3) := by decide +kernel
theorem dJ1_indexOfChar_4cfef_28 : decode cJ1_indexOfChar_4cfef 28 = .ok (.goto (-21), 3) := by decide +kernel
theorem dJ1_indexOfChar_4cfef_31 : decode cJ1_indexOfChar_4cfef 31 = .ok (.iconst (-1), 1) := by decide +kernel
theorem dJ1_indexOfChar_4cfef_32 : decode cJ1_indexOfChar_4cfef 32 = .ok (.ireturn, 1) := by decide +kernel
