theorem dX0_init_0 : decode cX0_init 0 = .ok (.aload_n 0, 1) := by decide +kernel
theorem dX0_init_1 : decode cX0_init 1 = .ok (.invokespecial 3, 3) := by decide +kernel
theorem dX0_init_4 : decode cX0_init 4 = .ok (.aload_n 0, 1) := by decide +kernel
theorem dX0_init_5 : decode cX0_init 5 = .ok (.bipush 20, 2) := by decide +kernel
theorem dX0_init_7 : decode cX0_init 7 = .ok (.putfield 9, 3) := by decide +kernel
theorem dX0_init_10 : decode cX0_init 10 = .ok (.aload_n 0, 1) := by decide +kernel
theorem dX0_init_11 : decode cX0_init 11 = .ok (.iconst 1, 1) := by decide +kernel
theorem dX0_init_12 : decode cX0_init 12 = .ok (.putfield 15, 3) := by decide +kernel
theorem dX0_init_15 : decode cX0_init 15 = .ok (.aload_n 0, 1) := by decide +kernel
theorem dX0_init_16 : decode cX0_init 16 = .ok (.bipush 8, 2) := by decide +kernel
theorem dX0_init_18 : decode cX0_init 18 = .ok (.newarray .int, 2) := by decide +kernel
theorem dX0_init_20 : decode cX0_init 20 = .ok (.putfield 18, 3) := by decide +kernel
theorem dX0_init_23 : decode cX0_init 23 = .ok (.aload_n 0, 1) := by decide +kernel
theorem dX0_init_24 : decode cX0_init 24 = .ok (.bipush 8, 2) := by decide +kernel
theorem dX0_init_26 : decode cX0_init 26 = .ok (.newarray .int, 2) := by decide +kernel
theorem dX0_init_28 : decode cX0_init 28 = .ok (.putfield 22, 3) := by decide +kernel
theorem dX0_init_31 : decode cX0_init 31 = .ok (.aload_n 0, 1) := by decide +kernel
theorem dX0_init_32 : decode cX0_init 32 = .ok (.bipush 8, 2) := by decide +kernel
theorem dX0_init_34 : decode cX0_init 34 = .ok (.newarray .int, 2) := by decide +kernel
theorem dX0_init_36 : decode cX0_init 36 = .ok (.putfield 25, 3) := by decide +kernel
theorem dX0_init_39 : decode cX0_init 39 = .ok (.aload_n 0, 1) := by decide +kernel
theorem dX0_init_40 : decode cX0_init 40 = .ok (.bipush 8, 2) := by decide +kernel
theorem dX0_init_42 : decode cX0_init 42 = .ok (.newarray .int, 2) := by decide +kernel
theorem dX0_init_44 : decode cX0_init 44 = .ok (.putfield 28, 3) := by decide +kernel
theorem dX0_init_47 : decode cX0_init 47 = .ok (.aload_n 0, 1) := by decide +kernel
theorem dX0_init_48 : decode cX0_init 48 = .ok (.bipush 8, 2) := by decide +kernel
theorem dX0_init_50 : decode cX0_init 50 = .ok (.newarray .int, 2) := by decide +kernel
theorem dX0_init_52 : decode cX0_init 52 = .ok (.putfield 31, 3) := by decide +kernel
theorem dX0_init_55 : decode cX0_init 55 = .ok (.aload_n 0, 1) := by decide +kernel
theorem dX0_init_56 : decode cX0_init 56 = .ok (.bipush 8, 2) := by decide +kernel
theorem dX0_init_58 : decode cX0_init 58 = .ok (.newarray .int, 2) := by decide +kernel
theorem dX0_init_60 : decode cX0_init 60 = .ok (.putfield 34, 3) := by decide +kernel
theorem dX0_init_63 : decode cX0_init 63 = .ok (.aload_n 0, 1) := by decide +kernel
theorem dX0_init_64 : decode cX0_init 64 = .ok (.bipush 8, 2) := by decide +kernel
theorem dX0_init_66 : decode cX0_init 66 = .ok (.newarray .int, 2) := by decide +kernel
theorem dX0_init_68 : decode cX0_init 68 = .ok (.putfield 37, 3) := by decide +kernel
theorem dX0_init_71 : decode cX0_init 71 = .ok (.aload_n 0, 1) := by decide +kernel
theorem dX0_init_72 : decode cX0_init 72 = .ok (.bipush 8, 2) := by decide +kernel
theorem dX0_init_74 : decode cX0_init 74 = .ok (.newarray .int, 2) := by decide +kernel
theorem dX0_init_76 : decode cX0_init 76 = .ok (.putfield 40, 3) := by decide +kernel
theorem dX0_init_79 : decode cX0_init 79 = .ok (.aload_n 0, 1) := by decide +kernel
theorem dX0_init_80 : decode cX0_init 80 = .ok (.bipush 8, 2) := by decide +kernel
theorem dX0_init_82 : decode cX0_init 82 = .ok (.newarray .int, 2) := by decide +kernel
theorem dX0_init_84 : decode cX0_init 84 = .ok (.putfield 43, 3) := by decide +kernel
theorem dX0_init_87 : decode cX0_init 87 = .ok (.aload_n 0, 1) := by decide +kernel
theorem dX0_init_88 : decode cX0_init 88 = .ok (.bipush 10, 2) := by decide +kernel
theorem dX0_init_90 : decode cX0_init 90 = .ok (.newarray .int, 2) := by decide +kernel
theorem dX0_init_92 : decode cX0_init 92 = .ok (.putfield 46, 3) := by decide +kernel
theorem dX0_init_95 : decode cX0_init 95 = .ok (.aload_n 0, 1) := by decide +kernel
theorem dX0_init_96 : decode cX0_init 96 = .ok (.getfield 46, 3) := by decide +kernel
theorem dX0_init_99 : decode cX0_init 99 = .ok (.iconst (-1), 1) := by decide +kernel
theorem dX0_init_100 : decode cX0_init 100 = .ok (.invokestatic 49, 3) := by decide +kernel
theorem dX0_init_103 : decode cX0_init 103 = .ok (.return_, 1) := by decide +kernel
theorem dX0_has_0 : decode cX0_has 0 = .ok (.iload_n 1, 1) := by decide +kernel
theorem dX0_has_1 : decode cX0_has 1 = .ok (.ifCond .lt 15, 3) := by decide +kernel
theorem dX0_has_4 : decode cX0_has 4 = .ok (.iload_n 1, 1) := by decide +kernel
theorem dX0_has_5 : decode cX0_has 5 = .ok (.aload_n 0, 1) := by decide +kernel
theorem dX0_has_6 : decode cX0_has 6 = .ok (.getfield 55, 3) := by decide +kernel
theorem dX0_has_9 : decode cX0_has 9 = .ok (.if_icmp .ge 7, 3) := by decide +kernel
theorem dX0_has_12 : decode cX0_has 12 = .ok (.iconst 1, 1) := by decide +kernel
theorem dX0_has_13 : decode cX0_has 13 = .ok (.goto 4, 3) := by decide +kernel
theorem dX0_has_16 : decode cX0_has 16 = .ok (.iconst 0, 1) := by decide +kernel
theorem dX0_has_17 : decode cX0_has 17 = .ok (.ireturn, 1) := by decide +kernel
theorem dX0_addRoom_0 : decode cX0_addRoom 0 = .ok (.aload_n 0, 1) := by decide +kernel
theorem dX0_addRoom_1 : decode cX0_addRoom 1 = .ok (.getfield 55, 3) := by decide +kernel
theorem dX0_addRoom_4 : decode cX0_addRoom 4 = .ok (.istore_n 2, 1) := by decide +kernel
theorem dX0_addRoom_5 : decode cX0_addRoom 5 = .ok (.iload_n 2, 1) := by decide +kernel
theorem dX0_addRoom_6 : decode cX0_addRoom 6 = .ok (.ifCond .lt 9, 3) := by decide +kernel
theorem dX0_addRoom_9 : decode cX0_addRoom 9 = .ok (.iload_n 2, 1) := by decide +kernel
theorem dX0_addRoom_10 : decode cX0_addRoom 10 = .ok (.bipush 8, 2) := by decide +kernel
theorem dX0_addRoom_12 : decode cX0_addRoom 12 = .ok (.if_icmp .lt 5, 3) := by decide +kernel
theorem dX0_addRoom_15 : decode cX0_addRoom 15 = .ok (.iconst (-1), 1) := by decide +kernel
theorem dX0_addRoom_16 : decode cX0_addRoom 16 = .ok (.ireturn, 1) := by decide +kernel
theorem dX0_addRoom_17 : decode cX0_addRoom 17 = .ok (.aload_n 0, 1) := by decide +kernel
theorem dX0_addRoom_18 : decode cX0_addRoom 18 = .ok (.getfield 18, 3) := by decide +kernel
theorem dX0_addRoom_21 : decode cX0_addRoom 21 = .ok (.iload_n 2, 1) := by decide +kernel
theorem dX0_addRoom_22 : decode cX0_addRoom 22 = .ok (.iload_n 1, 1) := by decide +kernel
theorem dX0_addRoom_23 : decode cX0_addRoom 23 = .ok (.iastore, 1) := by decide +kernel
theorem dX0_addRoom_24 : decode cX0_addRoom 24 = .ok (.aload_n 0, 1) := by decide +kernel
theorem dX0_addRoom_25 : decode cX0_addRoom 25 = .ok (.getfield 22, 3) := by decide +kernel
theorem dX0_addRoom_28 : decode cX0_addRoom 28 = .ok (.iload_n 2, 1) := by decide +kernel
theorem dX0_addRoom_29 : decode cX0_addRoom 29 = .ok (.bipush 100, 2) := by decide +kernel
theorem dX0_addRoom_31 : decode cX0_addRoom 31 = .ok (.iastore, 1) := by decide +kernel
theorem dX0_addRoom_32 : decode cX0_addRoom 32 = .ok (.aload_n 0, 1) := by decide +kernel
theorem dX0_addRoom_33 : decode cX0_addRoom 33 = .ok (.getfield 25, 3) := by decide +kernel
theorem dX0_addRoom_36 : decode cX0_addRoom 36 = .ok (.iload_n 2, 1) := by decide +kernel
theorem dX0_addRoom_37 : decode cX0_addRoom 37 = .ok (.bipush 50, 2) := by decide +kernel
theorem dX0_addRoom_39 : decode cX0_addRoom 39 = .ok (.iastore, 1) := by decide +kernel
theorem dX0_addRoom_40 : decode cX0_addRoom 40 = .ok (.aload_n 0, 1) := by decide +kernel
theorem dX0_addRoom_41 : decode cX0_addRoom 41 = .ok (.getfield 28, 3) := by decide +kernel
theorem dX0_addRoom_44 : decode cX0_addRoom 44 = .ok (.iload_n 2, 1) := by decide +kernel
theorem dX0_addRoom_45 : decode cX0_addRoom 45 = .ok (.bipush 10, 2) := by decide +kernel
theorem dX0_addRoom_47 : decode cX0_addRoom 47 = .ok (.iastore, 1) := by decide +kernel
theorem dX0_addRoom_48 : decode cX0_addRoom 48 = .ok (.aload_n 0, 1) := by decide +kernel
theorem dX0_addRoom_49 : decode cX0_addRoom 49 = .ok (.getfield 31, 3) := by decide +kernel
theorem dX0_addRoom_52 : decode cX0_addRoom 52 = .ok (.iload_n 2, 1) := by decide +kernel
theorem dX0_addRoom_53 : decode cX0_addRoom 53 = .ok (.iload_n 2, 1) := by decide +kernel
theorem dX0_addRoom_54 : decode cX0_addRoom 54 = .ok (.iconst 1, 1) := by decide +kernel
theorem dX0_addRoom_55 : decode cX0_addRoom 55 = .ok (.iadd, 1) := by decide +kernel
theorem dX0_addRoom_56 : decode cX0_addRoom 56 = .ok (.bipush 8, 2) := by decide +kernel
theorem dX0_addRoom_58 : decode cX0_addRoom 58 = .ok (.irem, 1) := by decide +kernel
theorem dX0_addRoom_59 : decode cX0_addRoom 59 = .ok (.iastore, 1) := by decide +kernel
theorem dX0_addRoom_60 : decode cX0_addRoom 60 = .ok (.aload_n 0, 1) := by decide +kernel
theorem dX0_addRoom_61 : decode cX0_addRoom 61 = .ok (.getfield 34, 3) := by decide +kernel
theorem dX0_addRoom_64 : decode cX0_addRoom 64 = .ok (.iload_n 2, 1) := by decide +kernel
theorem dX0_addRoom_65 : decode cX0_addRoom 65 = .ok (.iconst 0, 1) := by decide +kernel
theorem dX0_addRoom_66 : decode cX0_addRoom 66 = .ok (.iastore, 1) := by decide +kernel
theorem dX0_addRoom_67 : decode cX0_addRoom 67 = .ok (.aload_n 0, 1) := by decide +kernel
theorem dX0_addRoom_68 : decode cX0_addRoom 68 = .ok (.getfield 37, 3) := by decide +kernel
theorem dX0_addRoom_71 : decode cX0_addRoom 71 = .ok (.iload_n 2, 1) := by decide +kernel
theorem dX0_addRoom_72 : decode cX0_addRoom 72 = .ok (.iconst 0, 1) := by decide +kernel
theorem dX0_addRoom_73 : decode cX0_addRoom 73 = .ok (.iastore, 1) := by decide +kernel
theorem dX0_addRoom_74 : decode cX0_addRoom 74 = .ok (.aload_n 0, 1) := by decide +kernel
theorem dX0_addRoom_75 : decode cX0_addRoom 75 = .ok (.getfield 40, 3) := by decide +kernel
theorem dX0_addRoom_78 : decode cX0_addRoom 78 = .ok (.iload_n 2, 1) := by decide +kernel
theorem dX0_addRoom_79 : decode cX0_addRoom 79 = .ok (.iconst 1, 1) := by decide +kernel
theorem dX0_addRoom_80 : decode cX0_addRoom 80 = .ok (.iastore, 1) := by decide +kernel
theorem dX0_addRoom_81 : decode cX0_addRoom 81 = .ok (.aload_n 0, 1) := by decide +kernel
theorem dX0_addRoom_82 : decode cX0_addRoom 82 = .ok (.getfield 43, 3) := by decide +kernel
theorem dX0_addRoom_85 : decode cX0_addRoom 85 = .ok (.iload_n 2, 1) := by decide +kernel
theorem dX0_addRoom_86 : decode cX0_addRoom 86 = .ok (.iconst 1, 1) := by decide +kernel
theorem dX0_addRoom_87 : decode cX0_addRoom 87 = .ok (.iastore, 1) := by decide +kernel
theorem dX0_addRoom_88 : decode cX0_addRoom 88 = .ok (.aload_n 0, 1) := by decide +kernel
theorem dX0_addRoom_89 : decode cX0_addRoom 89 = .ok (.dup, 1) := by decide +kernel
theorem dX0_addRoom_90 : decode cX0_addRoom 90 = .ok (.getfield 55, 3) := by decide +kernel
theorem dX0_addRoom_93 : decode cX0_addRoom 93 = .ok (.iconst 1, 1) := by decide +kernel
theorem dX0_addRoom_94 : decode cX0_addRoom 94 = .ok (.iadd, 1) := by decide +kernel
theorem dX0_addRoom_95 : decode cX0_addRoom 95 = .ok (.putfield 55, 3) := by decide +kernel
theorem dX0_addRoom_98 : decode cX0_addRoom 98 = .ok (.iload_n 2, 1) := by decide +kernel
theorem dX0_addRoom_99 : decode cX0_addRoom 99 = .ok (.ireturn, 1) := by decide +kernel
theorem dX0_rowOf_0 : decode cX0_rowOf 0 = .ok (.iload_n 1, 1) := by decide +kernel
theorem dX0_rowOf_1 : decode cX0_rowOf 1 = .ok (.tableswitch 96 0 8 #[51, 56, 61, 66, 71, 76, 81, 86, 91], 51) := by decide +kernel
theorem dX0_rowOf_52 : decode cX0_rowOf 52 = .ok (.aload_n 0, 1) := by decide +kernel
theorem dX0_rowOf_53 : decode cX0_rowOf 53 = .ok (.getfield 18, 3) := by decide +kernel
theorem dX0_rowOf_56 : decode cX0_rowOf 56 = .ok (.areturn, 1) := by decide +kernel
theorem dX0_rowOf_57 : decode cX0_rowOf 57 = .ok (.aload_n 0, 1) := by decide +kernel
theorem dX0_rowOf_58 : decode cX0_rowOf 58 = .ok (.getfield 22, 3) := by decide +kernel
theorem dX0_rowOf_61 : decode cX0_rowOf 61 = .ok (.areturn, 1) := by decide +kernel
theorem dX0_rowOf_62 : decode cX0_rowOf 62 = .ok (.aload_n 0, 1) := by decide +kernel
theorem dX0_rowOf_63 : decode cX0_rowOf 63 = .ok (.getfield 25, 3) := by decide +kernel
theorem dX0_rowOf_66 : decode cX0_rowOf 66 = .ok (.areturn, 1) := by decide +kernel
theorem dX0_rowOf_67 : decode cX0_rowOf 67 = .ok (.aload_n 0, 1) := by decide +kernel
theorem dX0_rowOf_68 : decode cX0_rowOf 68 = .ok (.getfield 28, 3) := by decide +kernel
theorem dX0_rowOf_71 : decode cX0_rowOf 71 = .ok (.areturn, 1) := by decide +kernel
theorem dX0_rowOf_72 : decode cX0_rowOf 72 = .ok (.aload_n 0, 1) := by decide +kernel
theorem dX0_rowOf_73 : decode cX0_rowOf 73 = .ok (.getfield 31, 3) := by decide +kernel
theorem dX0_rowOf_76 : decode cX0_rowOf 76 = .ok (.areturn, 1) := by decide +kernel
theorem dX0_rowOf_77 : decode cX0_rowOf 77 = .ok (.aload_n 0, 1) := by decide +kernel
theorem dX0_rowOf_78 : decode cX0_rowOf 78 = .ok (.getfield 34, 3) := by decide +kernel
theorem dX0_rowOf_81 : decode cX0_rowOf 81 = .ok (.areturn, 1) := by decide +kernel
theorem dX0_rowOf_82 : decode cX0_rowOf 82 = .ok (.aload_n 0, 1) := by decide +kernel
theorem dX0_rowOf_83 : decode cX0_rowOf 83 = .ok (.getfield 37, 3) := by decide +kernel
theorem dX0_rowOf_86 : decode cX0_rowOf 86 = .ok (.areturn, 1) := by decide +kernel
theorem dX0_rowOf_87 : decode cX0_rowOf 87 = .ok (.aload_n 0, 1) := by decide +kernel
theorem dX0_rowOf_88 : decode cX0_rowOf 88 = .ok (.getfield 40, 3) := by decide +kernel
theorem dX0_rowOf_91 : decode cX0_rowOf 91 = .ok (.areturn, 1) := by decide +kernel
theorem dX0_rowOf_92 : decode cX0_rowOf 92 = .ok (.aload_n 0, 1) := by decide +kernel
theorem dX0_rowOf_93 : decode cX0_rowOf 93 = .ok (.getfield 43, 3) := by decide +kernel
theorem dX0_rowOf_96 : decode cX0_rowOf 96 = .ok (.areturn, 1) := by decide +kernel
theorem dX0_rowOf_97 : decode cX0_rowOf 97 = .ok (.aconst_null, 1) := by decide +kernel
theorem dX0_rowOf_98 : decode cX0_rowOf 98 = .ok (.areturn, 1) := by decide +kernel
theorem dX0_fits_0 : decode cX0_fits 0 = .ok (.aload_n 0, 1) := by decide +kernel
theorem dX0_fits_1 : decode cX0_fits 1 = .ok (.iload_n 1, 1) := by decide +kernel
theorem dX0_fits_2 : decode cX0_fits 2 = .ok (.invokevirtual 58, 3) := by decide +kernel
theorem dX0_fits_5 : decode cX0_fits 5 = .ok (.ifCond .eq 23, 3) := by decide +kernel
theorem dX0_fits_8 : decode cX0_fits 8 = .ok (.iload_n 2, 1) := by decide +kernel
theorem dX0_fits_9 : decode cX0_fits 9 = .ok (.ifCond .lt 19, 3) := by decide +kernel
theorem dX0_fits_12 : decode cX0_fits 12 = .ok (.iload_n 2, 1) := by decide +kernel
theorem dX0_fits_13 : decode cX0_fits 13 = .ok (.getstatic 62, 3) := by decide +kernel
theorem dX0_fits_16 : decode cX0_fits 16 = .ok (.arraylength, 1) := by decide +kernel
theorem dX0_fits_17 : decode cX0_fits 17 = .ok (.if_icmp .ge 11, 3) := by decide +kernel
theorem dX0_fits_20 : decode cX0_fits 20 = .ok (.iload_n 2, 1) := by decide +kernel
theorem dX0_fits_21 : decode cX0_fits 21 = .ok (.getstatic 65, 3) := by decide +kernel
theorem dX0_fits_24 : decode cX0_fits 24 = .ok (.arraylength, 1) := by decide +kernel
theorem dX0_fits_25 : decode cX0_fits 25 = .ok (.if_icmp .lt 5, 3) := by decide +kernel
theorem dX0_fits_28 : decode cX0_fits 28 = .ok (.iconst 0, 1) := by decide +kernel
theorem dX0_fits_29 : decode cX0_fits 29 = .ok (.ireturn, 1) := by decide +kernel
theorem dX0_fits_30 : decode cX0_fits 30 = .ok (.iload_n 3, 1) := by decide +kernel
theorem dX0_fits_31 : decode cX0_fits 31 = .ok (.getstatic 65, 3) := by decide +kernel
theorem dX0_fits_34 : decode cX0_fits 34 = .ok (.iload_n 2, 1) := by decide +kernel
theorem dX0_fits_35 : decode cX0_fits 35 = .ok (.iaload, 1) := by decide +kernel
theorem dX0_fits_36 : decode cX0_fits 36 = .ok (.if_icmp .lt 26, 3) := by decide +kernel
theorem dX0_fits_39 : decode cX0_fits 39 = .ok (.iload_n 3, 1) := by decide +kernel
theorem dX0_fits_40 : decode cX0_fits 40 = .ok (.getstatic 62, 3) := by decide +kernel
theorem dX0_fits_43 : decode cX0_fits 43 = .ok (.iload_n 2, 1) := by decide +kernel
theorem dX0_fits_44 : decode cX0_fits 44 = .ok (.iaload, 1) := by decide +kernel
theorem dX0_fits_45 : decode cX0_fits 45 = .ok (.if_icmp .gt 17, 3) := by decide +kernel
theorem dX0_fits_48 : decode cX0_fits 48 = .ok (.iload_n 2, 1) := by decide +kernel
theorem dX0_fits_49 : decode cX0_fits 49 = .ok (.iconst 4, 1) := by decide +kernel
theorem dX0_fits_50 : decode cX0_fits 50 = .ok (.if_icmp .ne 8, 3) := by decide +kernel
theorem dX0_fits_53 : decode cX0_fits 53 = .ok (.iload_n 3, 1) := by decide +kernel
theorem dX0_fits_54 : decode cX0_fits 54 = .ok (.iload_n 1, 1) := by decide +kernel
theorem dX0_fits_55 : decode cX0_fits 55 = .ok (.if_icmp .eq 7, 3) := by decide +kernel
theorem dX0_fits_58 : decode cX0_fits 58 = .ok (.iconst 1, 1) := by decide +kernel
theorem dX0_fits_59 : decode cX0_fits 59 = .ok (.goto 4, 3) := by decide +kernel
theorem dX0_fits_62 : decode cX0_fits 62 = .ok (.iconst 0, 1) := by decide +kernel
theorem dX0_fits_63 : decode cX0_fits 63 = .ok (.ireturn, 1) := by decide +kernel
theorem dX0_becomes_0 : decode cX0_becomes 0 = .ok (.aload_n 0, 1) := by decide +kernel
theorem dX0_becomes_1 : decode cX0_becomes 1 = .ok (.aload_n 1, 1) := by decide +kernel
theorem dX0_becomes_2 : decode cX0_becomes 2 = .ok (.getfield 55, 3) := by decide +kernel
theorem dX0_becomes_5 : decode cX0_becomes 5 = .ok (.putfield 55, 3) := by decide +kernel
theorem dX0_becomes_8 : decode cX0_becomes 8 = .ok (.aload_n 0, 1) := by decide +kernel
theorem dX0_becomes_9 : decode cX0_becomes 9 = .ok (.aload_n 1, 1) := by decide +kernel
theorem dX0_becomes_10 : decode cX0_becomes 10 = .ok (.getfield 9, 3) := by decide +kernel
theorem dX0_becomes_13 : decode cX0_becomes 13 = .ok (.putfield 9, 3) := by decide +kernel
theorem dX0_becomes_16 : decode cX0_becomes 16 = .ok (.aload_n 0, 1) := by decide +kernel
theorem dX0_becomes_17 : decode cX0_becomes 17 = .ok (.aload_n 1, 1) := by decide +kernel
theorem dX0_becomes_18 : decode cX0_becomes 18 = .ok (.getfield 68, 3) := by decide +kernel
theorem dX0_becomes_21 : decode cX0_becomes 21 = .ok (.putfield 68, 3) := by decide +kernel
theorem dX0_becomes_24 : decode cX0_becomes 24 = .ok (.aload_n 0, 1) := by decide +kernel
theorem dX0_becomes_25 : decode cX0_becomes 25 = .ok (.aload_n 1, 1) := by decide +kernel
theorem dX0_becomes_26 : decode cX0_becomes 26 = .ok (.getfield 15, 3) := by decide +kernel
theorem dX0_becomes_29 : decode cX0_becomes 29 = .ok (.putfield 15, 3) := by decide +kernel
theorem dX0_becomes_32 : decode cX0_becomes 32 = .ok (.aload_n 1, 1) := by decide +kernel
theorem dX0_becomes_33 : decode cX0_becomes 33 = .ok (.getfield 18, 3) := by decide +kernel
theorem dX0_becomes_36 : decode cX0_becomes 36 = .ok (.iconst 0, 1) := by decide +kernel
theorem dX0_becomes_37 : decode cX0_becomes 37 = .ok (.aload_n 0, 1) := by decide +kernel
theorem dX0_becomes_38 : decode cX0_becomes 38 = .ok (.getfield 18, 3) := by decide +kernel
theorem dX0_becomes_41 : decode cX0_becomes 41 = .ok (.iconst 0, 1) := by decide +kernel
theorem dX0_becomes_42 : decode cX0_becomes 42 = .ok (.bipush 8, 2) := by decide +kernel
theorem dX0_becomes_44 : decode cX0_becomes 44 = .ok (.invokestatic 71, 3) := by decide +kernel
theorem dX0_becomes_47 : decode cX0_becomes 47 = .ok (.aload_n 1, 1) := by decide +kernel
theorem dX0_becomes_48 : decode cX0_becomes 48 = .ok (.getfield 22, 3) := by decide +kernel
theorem dX0_becomes_51 : decode cX0_becomes 51 = .ok (.iconst 0, 1) := by decide +kernel
theorem dX0_becomes_52 : decode cX0_becomes 52 = .ok (.aload_n 0, 1) := by decide +kernel
theorem dX0_becomes_53 : decode cX0_becomes 53 = .ok (.getfield 22, 3) := by decide +kernel
theorem dX0_becomes_56 : decode cX0_becomes 56 = .ok (.iconst 0, 1) := by decide +kernel
theorem dX0_becomes_57 : decode cX0_becomes 57 = .ok (.bipush 8, 2) := by decide +kernel
theorem dX0_becomes_59 : decode cX0_becomes 59 = .ok (.invokestatic 71, 3) := by decide +kernel
theorem dX0_becomes_62 : decode cX0_becomes 62 = .ok (.aload_n 1, 1) := by decide +kernel
theorem dX0_becomes_63 : decode cX0_becomes 63 = .ok (.getfield 25, 3) := by decide +kernel
theorem dX0_becomes_66 : decode cX0_becomes 66 = .ok (.iconst 0, 1) := by decide +kernel
theorem dX0_becomes_67 : decode cX0_becomes 67 = .ok (.aload_n 0, 1) := by decide +kernel
theorem dX0_becomes_68 : decode cX0_becomes 68 = .ok (.getfield 25, 3) := by decide +kernel
theorem dX0_becomes_71 : decode cX0_becomes 71 = .ok (.iconst 0, 1) := by decide +kernel
theorem dX0_becomes_72 : decode cX0_becomes 72 = .ok (.bipush 8, 2) := by decide +kernel
theorem dX0_becomes_74 : decode cX0_becomes 74 = .ok (.invokestatic 71, 3) := by decide +kernel
theorem dX0_becomes_77 : decode cX0_becomes 77 = .ok (.aload_n 1, 1) := by decide +kernel
theorem dX0_becomes_78 : decode cX0_becomes 78 = .ok (.getfield 28, 3) := by decide +kernel
theorem dX0_becomes_81 : decode cX0_becomes 81 = .ok (.iconst 0, 1) := by decide +kernel
theorem dX0_becomes_82 : decode cX0_becomes 82 = .ok (.aload_n 0, 1) := by decide +kernel
theorem dX0_becomes_83 : decode cX0_becomes 83 = .ok (.getfield 28, 3) := by decide +kernel
theorem dX0_becomes_86 : decode cX0_becomes 86 = .ok (.iconst 0, 1) := by decide +kernel
theorem dX0_becomes_87 : decode cX0_becomes 87 = .ok (.bipush 8, 2) := by decide +kernel
theorem dX0_becomes_89 : decode cX0_becomes 89 = .ok (.invokestatic 71, 3) := by decide +kernel
theorem dX0_becomes_92 : decode cX0_becomes 92 = .ok (.aload_n 1, 1) := by decide +kernel
theorem dX0_becomes_93 : decode cX0_becomes 93 = .ok (.getfield 31, 3) := by decide +kernel
theorem dX0_becomes_96 : decode cX0_becomes 96 = .ok (.iconst 0, 1) := by decide +kernel
theorem dX0_becomes_97 : decode cX0_becomes 97 = .ok (.aload_n 0, 1) := by decide +kernel
theorem dX0_becomes_98 : decode cX0_becomes 98 = .ok (.getfield 31, 3) := by decide +kernel
theorem dX0_becomes_101 : decode cX0_becomes 101 = .ok (.iconst 0, 1) := by decide +kernel
theorem dX0_becomes_102 : decode cX0_becomes 102 = .ok (.bipush 8, 2) := by decide +kernel
theorem dX0_becomes_104 : decode cX0_becomes 104 = .ok (.invokestatic 71, 3) := by decide +kernel
theorem dX0_becomes_107 : decode cX0_becomes 107 = .ok (.aload_n 1, 1) := by decide +kernel
theorem dX0_becomes_108 : decode cX0_becomes 108 = .ok (.getfield 34, 3) := by decide +kernel
theorem dX0_becomes_111 : decode cX0_becomes 111 = .ok (.iconst 0, 1) := by decide +kernel
theorem dX0_becomes_112 : decode cX0_becomes 112 = .ok (.aload_n 0, 1) := by decide +kernel
theorem dX0_becomes_113 : decode cX0_becomes 113 = .ok (.getfield 34, 3) := by decide +kernel
theorem dX0_becomes_116 : decode cX0_becomes 116 = .ok (.iconst 0, 1) := by decide +kernel
theorem dX0_becomes_117 : decode cX0_becomes 117 = .ok (.bipush 8, 2) := by decide +kernel
theorem dX0_becomes_119 : decode cX0_becomes 119 = .ok (.invokestatic 71, 3) := by decide +kernel
theorem dX0_becomes_122 : decode cX0_becomes 122 = .ok (.aload_n 1, 1) := by decide +kernel
theorem dX0_becomes_123 : decode cX0_becomes 123 = .ok (.getfield 37, 3) := by decide +kernel
theorem dX0_becomes_126 : decode cX0_becomes 126 = .ok (.iconst 0, 1) := by decide +kernel
theorem dX0_becomes_127 : decode cX0_becomes 127 = .ok (.aload_n 0, 1) := by decide +kernel
theorem dX0_becomes_128 : decode cX0_becomes 128 = .ok (.getfield 37, 3) := by decide +kernel
theorem dX0_becomes_131 : decode cX0_becomes 131 = .ok (.iconst 0, 1) := by decide +kernel
theorem dX0_becomes_132 : decode cX0_becomes 132 = .ok (.bipush 8, 2) := by decide +kernel
theorem dX0_becomes_134 : decode cX0_becomes 134 = .ok (.invokestatic 71, 3) := by decide +kernel
theorem dX0_becomes_137 : decode cX0_becomes 137 = .ok (.aload_n 1, 1) := by decide +kernel
theorem dX0_becomes_138 : decode cX0_becomes 138 = .ok (.getfield 40, 3) := by decide +kernel
theorem dX0_becomes_141 : decode cX0_becomes 141 = .ok (.iconst 0, 1) := by decide +kernel
theorem dX0_becomes_142 : decode cX0_becomes 142 = .ok (.aload_n 0, 1) := by decide +kernel
theorem dX0_becomes_143 : decode cX0_becomes 143 = .ok (.getfield 40, 3) := by decide +kernel
theorem dX0_becomes_146 : decode cX0_becomes 146 = .ok (.iconst 0, 1) := by decide +kernel
theorem dX0_becomes_147 : decode cX0_becomes 147 = .ok (.bipush 8, 2) := by decide +kernel
theorem dX0_becomes_149 : decode cX0_becomes 149 = .ok (.invokestatic 71, 3) := by decide +kernel
theorem dX0_becomes_152 : decode cX0_becomes 152 = .ok (.aload_n 1, 1) := by decide +kernel
theorem dX0_becomes_153 : decode cX0_becomes 153 = .ok (.getfield 43, 3) := by decide +kernel
theorem dX0_becomes_156 : decode cX0_becomes 156 = .ok (.iconst 0, 1) := by decide +kernel
theorem dX0_becomes_157 : decode cX0_becomes 157 = .ok (.aload_n 0, 1) := by decide +kernel
theorem dX0_becomes_158 : decode cX0_becomes 158 = .ok (.getfield 43, 3) := by decide +kernel
theorem dX0_becomes_161 : decode cX0_becomes 161 = .ok (.iconst 0, 1) := by decide +kernel
theorem dX0_becomes_162 : decode cX0_becomes 162 = .ok (.bipush 8, 2) := by decide +kernel
theorem dX0_becomes_164 : decode cX0_becomes 164 = .ok (.invokestatic 71, 3) := by decide +kernel
theorem dX0_becomes_167 : decode cX0_becomes 167 = .ok (.aload_n 1, 1) := by decide +kernel
theorem dX0_becomes_168 : decode cX0_becomes 168 = .ok (.getfield 46, 3) := by decide +kernel
theorem dX0_becomes_171 : decode cX0_becomes 171 = .ok (.iconst 0, 1) := by decide +kernel
theorem dX0_becomes_172 : decode cX0_becomes 172 = .ok (.aload_n 0, 1) := by decide +kernel
theorem dX0_becomes_173 : decode cX0_becomes 173 = .ok (.getfield 46, 3) := by decide +kernel
theorem dX0_becomes_176 : decode cX0_becomes 176 = .ok (.iconst 0, 1) := by decide +kernel
theorem dX0_becomes_177 : decode cX0_becomes 177 = .ok (.bipush 10, 2) := by decide +kernel
theorem dX0_becomes_179 : decode cX0_becomes 179 = .ok (.invokestatic 71, 3) := by decide +kernel
theorem dX0_becomes_182 : decode cX0_becomes 182 = .ok (.return_, 1) := by decide +kernel
theorem dX0_wants_0 : decode cX0_wants 0 = .ok (.aload_n 0, 1) := by decide +kernel
theorem dX0_wants_1 : decode cX0_wants 1 = .ok (.getfield 22, 3) := by decide +kernel
theorem dX0_wants_4 : decode cX0_wants 4 = .ok (.iload_n 1, 1) := by decide +kernel
theorem dX0_wants_5 : decode cX0_wants 5 = .ok (.iaload, 1) := by decide +kernel
theorem dX0_wants_6 : decode cX0_wants 6 = .ok (.bipush 120, 2) := by decide +kernel
theorem dX0_wants_8 : decode cX0_wants 8 = .ok (.if_icmp .lt 7, 3) := by decide +kernel
theorem dX0_wants_11 : decode cX0_wants 11 = .ok (.iconst 2, 1) := by decide +kernel
theorem dX0_wants_12 : decode cX0_wants 12 = .ok (.goto 4, 3) := by decide +kernel
theorem dX0_wants_15 : decode cX0_wants 15 = .ok (.iconst 1, 1) := by decide +kernel
theorem dX0_wants_16 : decode cX0_wants 16 = .ok (.istore_n 2, 1) := by decide +kernel
theorem dX0_wants_17 : decode cX0_wants 17 = .ok (.aload_n 0, 1) := by decide +kernel
theorem dX0_wants_18 : decode cX0_wants 18 = .ok (.getfield 40, 3) := by decide +kernel
theorem dX0_wants_21 : decode cX0_wants 21 = .ok (.iload_n 1, 1) := by decide +kernel
theorem dX0_wants_22 : decode cX0_wants 22 = .ok (.iaload, 1) := by decide +kernel
theorem dX0_wants_23 : decode cX0_wants 23 = .ok (.iconst 3, 1) := by decide +kernel
theorem dX0_wants_24 : decode cX0_wants 24 = .ok (.invokestatic 77, 3) := by decide +kernel
theorem dX0_wants_27 : decode cX0_wants 27 = .ok (.istore_n 3, 1) := by decide +kernel
theorem dX0_wants_28 : decode cX0_wants 28 = .ok (.aload_n 0, 1) := by decide +kernel
theorem dX0_wants_29 : decode cX0_wants 29 = .ok (.getfield 18, 3) := by decide +kernel
theorem dX0_wants_32 : decode cX0_wants 32 = .ok (.iload_n 1, 1) := by decide +kernel
theorem dX0_wants_33 : decode cX0_wants 33 = .ok (.iaload, 1) := by decide +kernel
theorem dX0_wants_34 : decode cX0_wants 34 = .ok (.tableswitch 87 1 6 #[38, 44, 46, 40, 66, 50], 38) := by decide +kernel
theorem dX0_wants_72 : decode cX0_wants 72 = .ok (.iload_n 2, 1) := by decide +kernel
theorem dX0_wants_73 : decode cX0_wants 73 = .ok (.ireturn, 1) := by decide +kernel
theorem dX0_wants_74 : decode cX0_wants 74 = .ok (.iload_n 2, 1) := by decide +kernel
theorem dX0_wants_75 : decode cX0_wants 75 = .ok (.iconst 1, 1) := by decide +kernel
theorem dX0_wants_76 : decode cX0_wants 76 = .ok (.iadd, 1) := by decide +kernel
theorem dX0_wants_77 : decode cX0_wants 77 = .ok (.ireturn, 1) := by decide +kernel
theorem dX0_wants_78 : decode cX0_wants 78 = .ok (.iload_n 3, 1) := by decide +kernel
theorem dX0_wants_79 : decode cX0_wants 79 = .ok (.ireturn, 1) := by decide +kernel
theorem dX0_wants_80 : decode cX0_wants 80 = .ok (.iload_n 3, 1) := by decide +kernel
theorem dX0_wants_81 : decode cX0_wants 81 = .ok (.iconst 2, 1) := by decide +kernel
theorem dX0_wants_82 : decode cX0_wants 82 = .ok (.idiv, 1) := by decide +kernel
theorem dX0_wants_83 : decode cX0_wants 83 = .ok (.ireturn, 1) := by decide +kernel
theorem dX0_wants_84 : decode cX0_wants 84 = .ok (.aload_n 0, 1) := by decide +kernel
theorem dX0_wants_85 : decode cX0_wants 85 = .ok (.getfield 40, 3) := by decide +kernel
theorem dX0_wants_88 : decode cX0_wants 88 = .ok (.iload_n 1, 1) := by decide +kernel
theorem dX0_wants_89 : decode cX0_wants 89 = .ok (.iaload, 1) := by decide +kernel
theorem dX0_wants_90 : decode cX0_wants 90 = .ok (.iconst 2, 1) := by decide +kernel
theorem dX0_wants_91 : decode cX0_wants 91 = .ok (.if_icmp .ge 7, 3) := by decide +kernel
theorem dX0_wants_94 : decode cX0_wants 94 = .ok (.iconst 0, 1) := by decide +kernel
theorem dX0_wants_95 : decode cX0_wants 95 = .ok (.goto 4, 3) := by decide +kernel
theorem dX0_wants_98 : decode cX0_wants 98 = .ok (.iload_n 3, 1) := by decide +kernel
theorem dX0_wants_99 : decode cX0_wants 99 = .ok (.ireturn, 1) := by decide +kernel
theorem dX0_wants_100 : decode cX0_wants 100 = .ok (.aload_n 0, 1) := by decide +kernel
theorem dX0_wants_101 : decode cX0_wants 101 = .ok (.getfield 68, 3) := by decide +kernel
theorem dX0_wants_104 : decode cX0_wants 104 = .ok (.iconst 2, 1) := by decide +kernel
theorem dX0_wants_105 : decode cX0_wants 105 = .ok (.irem, 1) := by decide +kernel
theorem dX0_wants_106 : decode cX0_wants 106 = .ok (.iconst 1, 1) := by decide +kernel
theorem dX0_wants_107 : decode cX0_wants 107 = .ok (.if_icmp .ne 12, 3) := by decide +kernel
theorem dX0_wants_110 : decode cX0_wants 110 = .ok (.aload_n 0, 1) := by decide +kernel
theorem dX0_wants_111 : decode cX0_wants 111 = .ok (.getfield 43, 3) := by decide +kernel
theorem dX0_wants_114 : decode cX0_wants 114 = .ok (.iload_n 1, 1) := by decide +kernel
theorem dX0_wants_115 : decode cX0_wants 115 = .ok (.iaload, 1) := by decide +kernel
theorem dX0_wants_116 : decode cX0_wants 116 = .ok (.goto 4, 3) := by decide +kernel
theorem dX0_wants_119 : decode cX0_wants 119 = .ok (.iconst 1, 1) := by decide +kernel
theorem dX0_wants_120 : decode cX0_wants 120 = .ok (.ireturn, 1) := by decide +kernel
theorem dX0_wants_121 : decode cX0_wants 121 = .ok (.iconst 1, 1) := by decide +kernel
theorem dX0_wants_122 : decode cX0_wants 122 = .ok (.ireturn, 1) := by decide +kernel
theorem dX0_stokes_0 : decode cX0_stokes 0 = .ok (.aload_n 0, 1) := by decide +kernel
theorem dX0_stokes_1 : decode cX0_stokes 1 = .ok (.getfield 34, 3) := by decide +kernel
theorem dX0_stokes_4 : decode cX0_stokes 4 = .ok (.iload_n 1, 1) := by decide +kernel
theorem dX0_stokes_5 : decode cX0_stokes 5 = .ok (.iaload, 1) := by decide +kernel
theorem dX0_stokes_6 : decode cX0_stokes 6 = .ok (.iconst 1, 1) := by decide +kernel
theorem dX0_stokes_7 : decode cX0_stokes 7 = .ok (.if_icmp .ne 7, 3) := by decide +kernel
theorem dX0_stokes_10 : decode cX0_stokes 10 = .ok (.iconst 0, 1) := by decide +kernel
theorem dX0_stokes_11 : decode cX0_stokes 11 = .ok (.goto 17, 3) := by decide +kernel
theorem dX0_stokes_14 : decode cX0_stokes 14 = .ok (.aload_n 0, 1) := by decide +kernel
theorem dX0_stokes_15 : decode cX0_stokes 15 = .ok (.iload_n 1, 1) := by decide +kernel
theorem dX0_stokes_16 : decode cX0_stokes 16 = .ok (.invokevirtual 83, 3) := by decide +kernel
theorem dX0_stokes_19 : decode cX0_stokes 19 = .ok (.aload_n 0, 1) := by decide +kernel
theorem dX0_stokes_20 : decode cX0_stokes 20 = .ok (.getfield 25, 3) := by decide +kernel
theorem dX0_stokes_23 : decode cX0_stokes 23 = .ok (.iload_n 1, 1) := by decide +kernel
theorem dX0_stokes_24 : decode cX0_stokes 24 = .ok (.iaload, 1) := by decide +kernel
theorem dX0_stokes_25 : decode cX0_stokes 25 = .ok (.invokestatic 77, 3) := by decide +kernel
theorem dX0_stokes_28 : decode cX0_stokes 28 = .ok (.ireturn, 1) := by decide +kernel
theorem dX0_passHours_0 : decode cX0_passHours 0 = .ok (.iconst 0, 1) := by decide +kernel
theorem dX0_passHours_1 : decode cX0_passHours 1 = .ok (.istore_n 2, 1) := by decide +kernel
theorem dX0_passHours_2 : decode cX0_passHours 2 = .ok (.iconst 0, 1) := by decide +kernel
theorem dX0_passHours_3 : decode cX0_passHours 3 = .ok (.istore_n 3, 1) := by decide +kernel
theorem dX0_passHours_4 : decode cX0_passHours 4 = .ok (.iload_n 3, 1) := by decide +kernel
theorem dX0_passHours_5 : decode cX0_passHours 5 = .ok (.iload_n 1, 1) := by decide +kernel
theorem dX0_passHours_6 : decode cX0_passHours 6 = .ok (.if_icmp .ge 16, 3) := by decide +kernel
theorem dX0_passHours_9 : decode cX0_passHours 9 = .ok (.iload_n 2, 1) := by decide +kernel
theorem dX0_passHours_10 : decode cX0_passHours 10 = .ok (.aload_n 0, 1) := by decide +kernel
theorem dX0_passHours_11 : decode cX0_passHours 11 = .ok (.invokevirtual 87, 3) := by decide +kernel
theorem dX0_passHours_14 : decode cX0_passHours 14 = .ok (.iadd, 1) := by decide +kernel
theorem dX0_passHours_15 : decode cX0_passHours 15 = .ok (.istore_n 2, 1) := by decide +kernel
theorem dX0_passHours_16 : decode cX0_passHours 16 = .ok (.iinc 3 1, 3) := by decide +kernel
theorem dX0_passHours_19 : decode cX0_passHours 19 = .ok (.goto (-15), 3) := by decide +kernel
theorem dX0_passHours_22 : decode cX0_passHours 22 = .ok (.iload_n 2, 1) := by decide +kernel
theorem dX0_passHours_23 : decode cX0_passHours 23 = .ok (.ireturn, 1) := by decide +kernel
theorem dX0_passHour_0 : decode cX0_passHour 0 = .ok (.iconst 0, 1) := by decide +kernel
theorem dX0_passHour_1 : decode cX0_passHour 1 = .ok (.istore_n 1, 1) := by decide +kernel
theorem dX0_passHour_2 : decode cX0_passHour 2 = .ok (.iconst 0, 1) := by decide +kernel
theorem dX0_passHour_3 : decode cX0_passHour 3 = .ok (.istore_n 2, 1) := by decide +kernel
theorem dX0_passHour_4 : decode cX0_passHour 4 = .ok (.iload_n 2, 1) := by decide +kernel
theorem dX0_passHour_5 : decode cX0_passHour 5 = .ok (.aload_n 0, 1) := by decide +kernel
theorem dX0_passHour_6 : decode cX0_passHour 6 = .ok (.getfield 55, 3) := by decide +kernel
theorem dX0_passHour_9 : decode cX0_passHour 9 = .ok (.if_icmp .ge 44, 3) := by decide +kernel
theorem dX0_passHour_12 : decode cX0_passHour 12 = .ok (.aload_n 0, 1) := by decide +kernel
theorem dX0_passHour_13 : decode cX0_passHour 13 = .ok (.getfield 43, 3) := by decide +kernel
theorem dX0_passHour_16 : decode cX0_passHour 16 = .ok (.iload_n 2, 1) := by decide +kernel
theorem dX0_passHour_17 : decode cX0_passHour 17 = .ok (.aload_n 0, 1) := by decide +kernel
theorem dX0_passHour_18 : decode cX0_passHour 18 = .ok (.iload_n 2, 1) := by decide +kernel
theorem dX0_passHour_19 : decode cX0_passHour 19 = .ok (.invokevirtual 91, 3) := by decide +kernel
theorem dX0_passHour_22 : decode cX0_passHour 22 = .ok (.iastore, 1) := by decide +kernel
theorem dX0_passHour_23 : decode cX0_passHour 23 = .ok (.aload_n 0, 1) := by decide +kernel
theorem dX0_passHour_24 : decode cX0_passHour 24 = .ok (.getfield 25, 3) := by decide +kernel
theorem dX0_passHour_27 : decode cX0_passHour 27 = .ok (.iload_n 2, 1) := by decide +kernel
theorem dX0_passHour_28 : decode cX0_passHour 28 = .ok (.dup2, 1) := by decide +kernel
theorem dX0_passHour_29 : decode cX0_passHour 29 = .ok (.iaload, 1) := by decide +kernel
theorem dX0_passHour_30 : decode cX0_passHour 30 = .ok (.aload_n 0, 1) := by decide +kernel
theorem dX0_passHour_31 : decode cX0_passHour 31 = .ok (.getfield 43, 3) := by decide +kernel
theorem dX0_passHour_34 : decode cX0_passHour 34 = .ok (.iload_n 2, 1) := by decide +kernel
theorem dX0_passHour_35 : decode cX0_passHour 35 = .ok (.iaload, 1) := by decide +kernel
theorem dX0_passHour_36 : decode cX0_passHour 36 = .ok (.isub, 1) := by decide +kernel
theorem dX0_passHour_37 : decode cX0_passHour 37 = .ok (.iastore, 1) := by decide +kernel
theorem dX0_passHour_38 : decode cX0_passHour 38 = .ok (.iload_n 1, 1) := by decide +kernel
theorem dX0_passHour_39 : decode cX0_passHour 39 = .ok (.aload_n 0, 1) := by decide +kernel
theorem dX0_passHour_40 : decode cX0_passHour 40 = .ok (.getfield 43, 3) := by decide +kernel
theorem dX0_passHour_43 : decode cX0_passHour 43 = .ok (.iload_n 2, 1) := by decide +kernel
theorem dX0_passHour_44 : decode cX0_passHour 44 = .ok (.iaload, 1) := by decide +kernel
theorem dX0_passHour_45 : decode cX0_passHour 45 = .ok (.iadd, 1) := by decide +kernel
theorem dX0_passHour_46 : decode cX0_passHour 46 = .ok (.istore_n 1, 1) := by decide +kernel
theorem dX0_passHour_47 : decode cX0_passHour 47 = .ok (.iinc 2 1, 3) := by decide +kernel
theorem dX0_passHour_50 : decode cX0_passHour 50 = .ok (.goto (-46), 3) := by decide +kernel
theorem dX0_passHour_53 : decode cX0_passHour 53 = .ok (.aload_n 0, 1) := by decide +kernel
theorem dX0_passHour_54 : decode cX0_passHour 54 = .ok (.invokevirtual 94, 3) := by decide +kernel
theorem dX0_passHour_57 : decode cX0_passHour 57 = .ok (.iconst 0, 1) := by decide +kernel
theorem dX0_passHour_58 : decode cX0_passHour 58 = .ok (.istore_n 2, 1) := by decide +kernel
theorem dX0_passHour_59 : decode cX0_passHour 59 = .ok (.iload_n 2, 1) := by decide +kernel
theorem dX0_passHour_60 : decode cX0_passHour 60 = .ok (.aload_n 0, 1) := by decide +kernel
theorem dX0_passHour_61 : decode cX0_passHour 61 = .ok (.getfield 55, 3) := by decide +kernel
theorem dX0_passHour_64 : decode cX0_passHour 64 = .ok (.if_icmp .ge 51, 3) := by decide +kernel
theorem dX0_passHour_67 : decode cX0_passHour 67 = .ok (.aload_n 0, 1) := by decide +kernel
theorem dX0_passHour_68 : decode cX0_passHour 68 = .ok (.getfield 22, 3) := by decide +kernel
theorem dX0_passHour_71 : decode cX0_passHour 71 = .ok (.iload_n 2, 1) := by decide +kernel
theorem dX0_passHour_72 : decode cX0_passHour 72 = .ok (.aload_n 0, 1) := by decide +kernel
theorem dX0_passHour_73 : decode cX0_passHour 73 = .ok (.getfield 22, 3) := by decide +kernel
theorem dX0_passHour_76 : decode cX0_passHour 76 = .ok (.iload_n 2, 1) := by decide +kernel
theorem dX0_passHour_77 : decode cX0_passHour 77 = .ok (.iaload, 1) := by decide +kernel
theorem dX0_passHour_78 : decode cX0_passHour 78 = .ok (.bipush 15, 2) := by decide +kernel
theorem dX0_passHour_80 : decode cX0_passHour 80 = .ok (.aload_n 0, 1) := by decide +kernel
theorem dX0_passHour_81 : decode cX0_passHour 81 = .ok (.getfield 40, 3) := by decide +kernel
theorem dX0_passHour_84 : decode cX0_passHour 84 = .ok (.iload_n 2, 1) := by decide +kernel
theorem dX0_passHour_85 : decode cX0_passHour 85 = .ok (.iaload, 1) := by decide +kernel
theorem dX0_passHour_86 : decode cX0_passHour 86 = .ok (.imul, 1) := by decide +kernel
theorem dX0_passHour_87 : decode cX0_passHour 87 = .ok (.iadd, 1) := by decide +kernel
theorem dX0_passHour_88 : decode cX0_passHour 88 = .ok (.sipush 300, 3) := by decide +kernel
theorem dX0_passHour_91 : decode cX0_passHour 91 = .ok (.invokestatic 77, 3) := by decide +kernel
theorem dX0_passHour_94 : decode cX0_passHour 94 = .ok (.iastore, 1) := by decide +kernel
theorem dX0_passHour_95 : decode cX0_passHour 95 = .ok (.aload_n 0, 1) := by decide +kernel
theorem dX0_passHour_96 : decode cX0_passHour 96 = .ok (.getfield 22, 3) := by decide +kernel
theorem dX0_passHour_99 : decode cX0_passHour 99 = .ok (.iload_n 2, 1) := by decide +kernel
theorem dX0_passHour_100 : decode cX0_passHour 100 = .ok (.dup2, 1) := by decide +kernel
theorem dX0_passHour_101 : decode cX0_passHour 101 = .ok (.iaload, 1) := by decide +kernel
theorem dX0_passHour_102 : decode cX0_passHour 102 = .ok (.aload_n 0, 1) := by decide +kernel
theorem dX0_passHour_103 : decode cX0_passHour 103 = .ok (.iload_n 2, 1) := by decide +kernel
theorem dX0_passHour_104 : decode cX0_passHour 104 = .ok (.invokevirtual 97, 3) := by decide +kernel
theorem dX0_passHour_107 : decode cX0_passHour 107 = .ok (.isub, 1) := by decide +kernel
theorem dX0_passHour_108 : decode cX0_passHour 108 = .ok (.iastore, 1) := by decide +kernel
theorem dX0_passHour_109 : decode cX0_passHour 109 = .ok (.iinc 2 1, 3) := by decide +kernel
theorem dX0_passHour_112 : decode cX0_passHour 112 = .ok (.goto (-53), 3) := by decide +kernel
theorem dX0_passHour_115 : decode cX0_passHour 115 = .ok (.aload_n 0, 1) := by decide +kernel
theorem dX0_passHour_116 : decode cX0_passHour 116 = .ok (.dup, 1) := by decide +kernel
theorem dX0_passHour_117 : decode cX0_passHour 117 = .ok (.getfield 68, 3) := by decide +kernel
theorem dX0_passHour_120 : decode cX0_passHour 120 = .ok (.iconst 1, 1) := by decide +kernel
theorem dX0_passHour_121 : decode cX0_passHour 121 = .ok (.iadd, 1) := by decide +kernel
theorem dX0_passHour_122 : decode cX0_passHour 122 = .ok (.putfield 68, 3) := by decide +kernel
theorem dX0_passHour_125 : decode cX0_passHour 125 = .ok (.iload_n 1, 1) := by decide +kernel
theorem dX0_passHour_126 : decode cX0_passHour 126 = .ok (.ireturn, 1) := by decide +kernel
theorem dX0_heat_0 : decode cX0_heat 0 = .ok (.aload_n 0, 1) := by decide +kernel
theorem dX0_heat_1 : decode cX0_heat 1 = .ok (.getfield 40, 3) := by decide +kernel
theorem dX0_heat_4 : decode cX0_heat 4 = .ok (.iconst 0, 1) := by decide +kernel
theorem dX0_heat_5 : decode cX0_heat 5 = .ok (.invokestatic 49, 3) := by decide +kernel
theorem dX0_heat_8 : decode cX0_heat 8 = .ok (.iconst 0, 1) := by decide +kernel
theorem dX0_heat_9 : decode cX0_heat 9 = .ok (.istore_n 1, 1) := by decide +kernel
theorem dX0_heat_10 : decode cX0_heat 10 = .ok (.iload_n 1, 1) := by decide +kernel
theorem dX0_heat_11 : decode cX0_heat 11 = .ok (.aload_n 0, 1) := by decide +kernel
theorem dX0_heat_12 : decode cX0_heat 12 = .ok (.getfield 55, 3) := by decide +kernel
theorem dX0_heat_15 : decode cX0_heat 15 = .ok (.if_icmp .ge 53, 3) := by decide +kernel
theorem dX0_heat_18 : decode cX0_heat 18 = .ok (.aload_n 0, 1) := by decide +kernel
theorem dX0_heat_19 : decode cX0_heat 19 = .ok (.aload_n 0, 1) := by decide +kernel
theorem dX0_heat_20 : decode cX0_heat 20 = .ok (.getfield 31, 3) := by decide +kernel
theorem dX0_heat_23 : decode cX0_heat 23 = .ok (.iload_n 1, 1) := by decide +kernel
theorem dX0_heat_24 : decode cX0_heat 24 = .ok (.iaload, 1) := by decide +kernel
theorem dX0_heat_25 : decode cX0_heat 25 = .ok (.invokevirtual 58, 3) := by decide +kernel
theorem dX0_heat_28 : decode cX0_heat 28 = .ok (.ifCond .eq 34, 3) := by decide +kernel
theorem dX0_heat_31 : decode cX0_heat 31 = .ok (.aload_n 0, 1) := by decide +kernel
theorem dX0_heat_32 : decode cX0_heat 32 = .ok (.getfield 40, 3) := by decide +kernel
theorem dX0_heat_35 : decode cX0_heat 35 = .ok (.aload_n 0, 1) := by decide +kernel
theorem dX0_heat_36 : decode cX0_heat 36 = .ok (.getfield 31, 3) := by decide +kernel
theorem dX0_heat_39 : decode cX0_heat 39 = .ok (.iload_n 1, 1) := by decide +kernel
theorem dX0_heat_40 : decode cX0_heat 40 = .ok (.iaload, 1) := by decide +kernel
theorem dX0_heat_41 : decode cX0_heat 41 = .ok (.dup2, 1) := by decide +kernel
theorem dX0_heat_42 : decode cX0_heat 42 = .ok (.iaload, 1) := by decide +kernel
theorem dX0_heat_43 : decode cX0_heat 43 = .ok (.aload_n 0, 1) := by decide +kernel
theorem dX0_heat_44 : decode cX0_heat 44 = .ok (.getfield 43, 3) := by decide +kernel
theorem dX0_heat_47 : decode cX0_heat 47 = .ok (.iload_n 1, 1) := by decide +kernel
theorem dX0_heat_48 : decode cX0_heat 48 = .ok (.iaload, 1) := by decide +kernel
theorem dX0_heat_49 : decode cX0_heat 49 = .ok (.aload_n 0, 1) := by decide +kernel
theorem dX0_heat_50 : decode cX0_heat 50 = .ok (.getfield 37, 3) := by decide +kernel
theorem dX0_heat_53 : decode cX0_heat 53 = .ok (.iload_n 1, 1) := by decide +kernel
theorem dX0_heat_54 : decode cX0_heat 54 = .ok (.iaload, 1) := by decide +kernel
theorem dX0_heat_55 : decode cX0_heat 55 = .ok (.isub, 1) := by decide +kernel
theorem dX0_heat_56 : decode cX0_heat 56 = .ok (.iconst 0, 1) := by decide +kernel
theorem dX0_heat_57 : decode cX0_heat 57 = .ok (.invokestatic 100, 3) := by decide +kernel
theorem dX0_heat_60 : decode cX0_heat 60 = .ok (.iadd, 1) := by decide +kernel
theorem dX0_heat_61 : decode cX0_heat 61 = .ok (.iastore, 1) := by decide +kernel
theorem dX0_heat_62 : decode cX0_heat 62 = .ok (.iinc 1 1, 3) := by decide +kernel
theorem dX0_heat_65 : decode cX0_heat 65 = .ok (.goto (-55), 3) := by decide +kernel
theorem dX0_heat_68 : decode cX0_heat 68 = .ok (.return_, 1) := by decide +kernel
theorem dX0_lostBy_0 : decode cX0_lostBy 0 = .ok (.aload_n 0, 1) := by decide +kernel
theorem dX0_lostBy_1 : decode cX0_lostBy 1 = .ok (.getfield 9, 3) := by decide +kernel
theorem dX0_lostBy_4 : decode cX0_lostBy 4 = .ok (.aload_n 0, 1) := by decide +kernel
theorem dX0_lostBy_5 : decode cX0_lostBy 5 = .ok (.getfield 22, 3) := by decide +kernel
theorem dX0_lostBy_8 : decode cX0_lostBy 8 = .ok (.iload_n 1, 1) := by decide +kernel
theorem dX0_lostBy_9 : decode cX0_lostBy 9 = .ok (.iaload, 1) := by decide +kernel
theorem dX0_lostBy_10 : decode cX0_lostBy 10 = .ok (.if_icmp .ge 12, 3) := by decide +kernel
theorem dX0_lostBy_13 : decode cX0_lostBy 13 = .ok (.aload_n 0, 1) := by decide +kernel
theorem dX0_lostBy_14 : decode cX0_lostBy 14 = .ok (.getfield 28, 3) := by decide +kernel
theorem dX0_lostBy_17 : decode cX0_lostBy 17 = .ok (.iload_n 1, 1) := by decide +kernel
theorem dX0_lostBy_18 : decode cX0_lostBy 18 = .ok (.iaload, 1) := by decide +kernel
theorem dX0_lostBy_19 : decode cX0_lostBy 19 = .ok (.ifCond .gt 5, 3) := by decide +kernel
theorem dX0_lostBy_22 : decode cX0_lostBy 22 = .ok (.iconst 0, 1) := by decide +kernel
theorem dX0_lostBy_23 : decode cX0_lostBy 23 = .ok (.ireturn, 1) := by decide +kernel
theorem dX0_lostBy_24 : decode cX0_lostBy 24 = .ok (.aload_n 0, 1) := by decide +kernel
theorem dX0_lostBy_25 : decode cX0_lostBy 25 = .ok (.getfield 22, 3) := by decide +kernel
theorem dX0_lostBy_28 : decode cX0_lostBy 28 = .ok (.iload_n 1, 1) := by decide +kernel
theorem dX0_lostBy_29 : decode cX0_lostBy 29 = .ok (.iaload, 1) := by decide +kernel
theorem dX0_lostBy_30 : decode cX0_lostBy 30 = .ok (.aload_n 0, 1) := by decide +kernel
theorem dX0_lostBy_31 : decode cX0_lostBy 31 = .ok (.getfield 9, 3) := by decide +kernel
theorem dX0_lostBy_34 : decode cX0_lostBy 34 = .ok (.isub, 1) := by decide +kernel
theorem dX0_lostBy_35 : decode cX0_lostBy 35 = .ok (.aload_n 0, 1) := by decide +kernel
theorem dX0_lostBy_36 : decode cX0_lostBy 36 = .ok (.getfield 28, 3) := by decide +kernel
theorem dX0_lostBy_39 : decode cX0_lostBy 39 = .ok (.iload_n 1, 1) := by decide +kernel
theorem dX0_lostBy_40 : decode cX0_lostBy 40 = .ok (.iaload, 1) := by decide +kernel
theorem dX0_lostBy_41 : decode cX0_lostBy 41 = .ok (.idiv, 1) := by decide +kernel
theorem dX0_lostBy_42 : decode cX0_lostBy 42 = .ok (.ireturn, 1) := by decide +kernel
theorem dX0_nextIsRest_0 : decode cX0_nextIsRest 0 = .ok (.iconst 0, 1) := by decide +kernel
theorem dX0_nextIsRest_1 : decode cX0_nextIsRest 1 = .ok (.istore_n 1, 1) := by decide +kernel
theorem dX0_nextIsRest_2 : decode cX0_nextIsRest 2 = .ok (.iload_n 1, 1) := by decide +kernel
theorem dX0_nextIsRest_3 : decode cX0_nextIsRest 3 = .ok (.aload_n 0, 1) := by decide +kernel
theorem dX0_nextIsRest_4 : decode cX0_nextIsRest 4 = .ok (.getfield 55, 3) := by decide +kernel
theorem dX0_nextIsRest_7 : decode cX0_nextIsRest 7 = .ok (.if_icmp .ge 25, 3) := by decide +kernel
theorem dX0_nextIsRest_10 : decode cX0_nextIsRest 10 = .ok (.aload_n 0, 1) := by decide +kernel
theorem dX0_nextIsRest_11 : decode cX0_nextIsRest 11 = .ok (.iload_n 1, 1) := by decide +kernel
theorem dX0_nextIsRest_12 : decode cX0_nextIsRest 12 = .ok (.invokevirtual 91, 3) := by decide +kernel
theorem dX0_nextIsRest_15 : decode cX0_nextIsRest 15 = .ok (.aload_n 0, 1) := by decide +kernel
theorem dX0_nextIsRest_16 : decode cX0_nextIsRest 16 = .ok (.getfield 43, 3) := by decide +kernel
theorem dX0_nextIsRest_19 : decode cX0_nextIsRest 19 = .ok (.iload_n 1, 1) := by decide +kernel
theorem dX0_nextIsRest_20 : decode cX0_nextIsRest 20 = .ok (.iaload, 1) := by decide +kernel
theorem dX0_nextIsRest_21 : decode cX0_nextIsRest 21 = .ok (.if_icmp .eq 5, 3) := by decide +kernel
theorem dX0_nextIsRest_24 : decode cX0_nextIsRest 24 = .ok (.iconst 0, 1) := by decide +kernel
theorem dX0_nextIsRest_25 : decode cX0_nextIsRest 25 = .ok (.ireturn, 1) := by decide +kernel
theorem dX0_nextIsRest_26 : decode cX0_nextIsRest 26 = .ok (.iinc 1 1, 3) := by decide +kernel
theorem dX0_nextIsRest_29 : decode cX0_nextIsRest 29 = .ok (.goto (-27), 3) := by decide +kernel
theorem dX0_nextIsRest_32 : decode cX0_nextIsRest 32 = .ok (.iconst 1, 1) := by decide +kernel
theorem dX0_nextIsRest_33 : decode cX0_nextIsRest 33 = .ok (.ireturn, 1) := by decide +kernel
theorem dX0_stokesLike_0 : decode cX0_stokesLike 0 = .ok (.aload_n 0, 1) := by decide +kernel
theorem dX0_stokesLike_1 : decode cX0_stokesLike 1 = .ok (.getfield 68, 3) := by decide +kernel
theorem dX0_stokesLike_4 : decode cX0_stokesLike 4 = .ok (.aload_n 1, 1) := by decide +kernel
theorem dX0_stokesLike_5 : decode cX0_stokesLike 5 = .ok (.getfield 68, 3) := by decide +kernel
theorem dX0_stokesLike_8 : decode cX0_stokesLike 8 = .ok (.isub, 1) := by decide +kernel
theorem dX0_stokesLike_9 : decode cX0_stokesLike 9 = .ok (.iconst 2, 1) := by decide +kernel
theorem dX0_stokesLike_10 : decode cX0_stokesLike 10 = .ok (.irem, 1) := by decide +kernel
theorem dX0_stokesLike_11 : decode cX0_stokesLike 11 = .ok (.ifCond .eq 5, 3) := by decide +kernel
theorem dX0_stokesLike_14 : decode cX0_stokesLike 14 = .ok (.iconst 0, 1) := by decide +kernel
theorem dX0_stokesLike_15 : decode cX0_stokesLike 15 = .ok (.ireturn, 1) := by decide +kernel
theorem dX0_stokesLike_16 : decode cX0_stokesLike 16 = .ok (.iconst 0, 1) := by decide +kernel
theorem dX0_stokesLike_17 : decode cX0_stokesLike 17 = .ok (.istore_n 2, 1) := by decide +kernel
theorem dX0_stokesLike_18 : decode cX0_stokesLike 18 = .ok (.iload_n 2, 1) := by decide +kernel
theorem dX0_stokesLike_19 : decode cX0_stokesLike 19 = .ok (.aload_n 0, 1) := by decide +kernel
theorem dX0_stokesLike_20 : decode cX0_stokesLike 20 = .ok (.getfield 55, 3) := by decide +kernel
theorem dX0_stokesLike_23 : decode cX0_stokesLike 23 = .ok (.if_icmp .ge 41, 3) := by decide +kernel
theorem dX0_stokesLike_26 : decode cX0_stokesLike 26 = .ok (.aload_n 0, 1) := by decide +kernel
theorem dX0_stokesLike_27 : decode cX0_stokesLike 27 = .ok (.getfield 40, 3) := by decide +kernel
theorem dX0_stokesLike_30 : decode cX0_stokesLike 30 = .ok (.iload_n 2, 1) := by decide +kernel
theorem dX0_stokesLike_31 : decode cX0_stokesLike 31 = .ok (.iaload, 1) := by decide +kernel
theorem dX0_stokesLike_32 : decode cX0_stokesLike 32 = .ok (.aload_n 1, 1) := by decide +kernel
theorem dX0_stokesLike_33 : decode cX0_stokesLike 33 = .ok (.getfield 40, 3) := by decide +kernel
theorem dX0_stokesLike_36 : decode cX0_stokesLike 36 = .ok (.iload_n 2, 1) := by decide +kernel
theorem dX0_stokesLike_37 : decode cX0_stokesLike 37 = .ok (.iaload, 1) := by decide +kernel
theorem dX0_stokesLike_38 : decode cX0_stokesLike 38 = .ok (.if_icmp .ne 18, 3) := by decide +kernel
theorem dX0_stokesLike_41 : decode cX0_stokesLike 41 = .ok (.aload_n 0, 1) := by decide +kernel
theorem dX0_stokesLike_42 : decode cX0_stokesLike 42 = .ok (.getfield 43, 3) := by decide +kernel
theorem dX0_stokesLike_45 : decode cX0_stokesLike 45 = .ok (.iload_n 2, 1) := by decide +kernel
theorem dX0_stokesLike_46 : decode cX0_stokesLike 46 = .ok (.iaload, 1) := by decide +kernel
theorem dX0_stokesLike_47 : decode cX0_stokesLike 47 = .ok (.aload_n 1, 1) := by decide +kernel
theorem dX0_stokesLike_48 : decode cX0_stokesLike 48 = .ok (.getfield 43, 3) := by decide +kernel
theorem dX0_stokesLike_51 : decode cX0_stokesLike 51 = .ok (.iload_n 2, 1) := by decide +kernel
theorem dX0_stokesLike_52 : decode cX0_stokesLike 52 = .ok (.iaload, 1) := by decide +kernel
theorem dX0_stokesLike_53 : decode cX0_stokesLike 53 = .ok (.if_icmp .eq 5, 3) := by decide +kernel
theorem dX0_stokesLike_56 : decode cX0_stokesLike 56 = .ok (.iconst 0, 1) := by decide +kernel
theorem dX0_stokesLike_57 : decode cX0_stokesLike 57 = .ok (.ireturn, 1) := by decide +kernel
theorem dX0_stokesLike_58 : decode cX0_stokesLike 58 = .ok (.iinc 2 1, 3) := by decide +kernel
theorem dX0_stokesLike_61 : decode cX0_stokesLike 61 = .ok (.goto (-43), 3) := by decide +kernel
theorem dX0_stokesLike_64 : decode cX0_stokesLike 64 = .ok (.iconst 1, 1) := by decide +kernel
theorem dX0_stokesLike_65 : decode cX0_stokesLike 65 = .ok (.ireturn, 1) := by decide +kernel
theorem dX0_changePlaces_0 : decode cX0_changePlaces 0 = .ok (.aload_n 0, 1) := by decide +kernel
theorem dX0_changePlaces_1 : decode cX0_changePlaces 1 = .ok (.getfield 18, 3) := by decide +kernel
theorem dX0_changePlaces_4 : decode cX0_changePlaces 4 = .ok (.iload_n 1, 1) := by decide +kernel
theorem dX0_changePlaces_5 : decode cX0_changePlaces 5 = .ok (.iload_n 2, 1) := by decide +kernel
theorem dX0_changePlaces_6 : decode cX0_changePlaces 6 = .ok (.invokestatic 103, 3) := by decide +kernel
theorem dX0_changePlaces_9 : decode cX0_changePlaces 9 = .ok (.aload_n 0, 1) := by decide +kernel
theorem dX0_changePlaces_10 : decode cX0_changePlaces 10 = .ok (.getfield 34, 3) := by decide +kernel
theorem dX0_changePlaces_13 : decode cX0_changePlaces 13 = .ok (.iload_n 1, 1) := by decide +kernel
theorem dX0_changePlaces_14 : decode cX0_changePlaces 14 = .ok (.iload_n 2, 1) := by decide +kernel
theorem dX0_changePlaces_15 : decode cX0_changePlaces 15 = .ok (.invokestatic 103, 3) := by decide +kernel
theorem dX0_changePlaces_18 : decode cX0_changePlaces 18 = .ok (.aload_n 0, 1) := by decide +kernel
theorem dX0_changePlaces_19 : decode cX0_changePlaces 19 = .ok (.getfield 43, 3) := by decide +kernel
theorem dX0_changePlaces_22 : decode cX0_changePlaces 22 = .ok (.iload_n 1, 1) := by decide +kernel
theorem dX0_changePlaces_23 : decode cX0_changePlaces 23 = .ok (.iload_n 2, 1) := by decide +kernel
theorem dX0_changePlaces_24 : decode cX0_changePlaces 24 = .ok (.invokestatic 103, 3) := by decide +kernel
theorem dX0_changePlaces_27 : decode cX0_changePlaces 27 = .ok (.return_, 1) := by decide +kernel
theorem dX0_swap_0 : decode cX0_swap 0 = .ok (.aload_n 0, 1) := by decide +kernel
theorem dX0_swap_1 : decode cX0_swap 1 = .ok (.iload_n 1, 1) := by decide +kernel
theorem dX0_swap_2 : decode cX0_swap 2 = .ok (.iaload, 1) := by decide +kernel
theorem dX0_swap_3 : decode cX0_swap 3 = .ok (.istore_n 3, 1) := by decide +kernel
theorem dX0_swap_4 : decode cX0_swap 4 = .ok (.aload_n 0, 1) := by decide +kernel
theorem dX0_swap_5 : decode cX0_swap 5 = .ok (.iload_n 1, 1) := by decide +kernel
theorem dX0_swap_6 : decode cX0_swap 6 = .ok (.aload_n 0, 1) := by decide +kernel
theorem dX0_swap_7 : decode cX0_swap 7 = .ok (.iload_n 2, 1) := by decide +kernel
theorem dX0_swap_8 : decode cX0_swap 8 = .ok (.iaload, 1) := by decide +kernel
theorem dX0_swap_9 : decode cX0_swap 9 = .ok (.iastore, 1) := by decide +kernel
theorem dX0_swap_10 : decode cX0_swap 10 = .ok (.aload_n 0, 1) := by decide +kernel
theorem dX0_swap_11 : decode cX0_swap 11 = .ok (.iload_n 2, 1) := by decide +kernel
theorem dX0_swap_12 : decode cX0_swap 12 = .ok (.iload_n 3, 1) := by decide +kernel
theorem dX0_swap_13 : decode cX0_swap 13 = .ok (.iastore, 1) := by decide +kernel
theorem dX0_swap_14 : decode cX0_swap 14 = .ok (.return_, 1) := by decide +kernel
theorem dX0_isOneOf_0 : decode cX0_isOneOf 0 = .ok (.aload_n 0, 1) := by decide +kernel
theorem dX0_isOneOf_1 : decode cX0_isOneOf 1 = .ok (.getfield 18, 3) := by decide +kernel
theorem dX0_isOneOf_4 : decode cX0_isOneOf 4 = .ok (.iload_n 1, 1) := by decide +kernel
theorem dX0_isOneOf_5 : decode cX0_isOneOf 5 = .ok (.iaload, 1) := by decide +kernel
theorem dX0_isOneOf_6 : decode cX0_isOneOf 6 = .ok (.istore_n 3, 1) := by decide +kernel
theorem dX0_isOneOf_7 : decode cX0_isOneOf 7 = .ok (.iconst 0, 1) := by decide +kernel
theorem dX0_isOneOf_8 : decode cX0_isOneOf 8 = .ok (.istore 4, 2) := by decide +kernel
theorem dX0_isOneOf_10 : decode cX0_isOneOf 10 = .ok (.iload 4, 2) := by decide +kernel
theorem dX0_isOneOf_12 : decode cX0_isOneOf 12 = .ok (.getstatic 107, 3) := by decide +kernel
theorem dX0_isOneOf_15 : decode cX0_isOneOf 15 = .ok (.arraylength, 1) := by decide +kernel
theorem dX0_isOneOf_16 : decode cX0_isOneOf 16 = .ok (.if_icmp .ge 29, 3) := by decide +kernel
theorem dX0_isOneOf_19 : decode cX0_isOneOf 19 = .ok (.iload_n 3, 1) := by decide +kernel
theorem dX0_isOneOf_20 : decode cX0_isOneOf 20 = .ok (.invokestatic 110, 3) := by decide +kernel
theorem dX0_isOneOf_23 : decode cX0_isOneOf 23 = .ok (.ifCond .eq 22, 3) := by decide +kernel
theorem dX0_isOneOf_26 : decode cX0_isOneOf 26 = .ok (.iload_n 3, 1) := by decide +kernel
theorem dX0_isOneOf_27 : decode cX0_isOneOf 27 = .ok (.iload_n 2, 1) := by decide +kernel
theorem dX0_isOneOf_28 : decode cX0_isOneOf 28 = .ok (.if_icmp .ne 5, 3) := by decide +kernel
theorem dX0_isOneOf_31 : decode cX0_isOneOf 31 = .ok (.iconst 1, 1) := by decide +kernel
theorem dX0_isOneOf_32 : decode cX0_isOneOf 32 = .ok (.ireturn, 1) := by decide +kernel
theorem dX0_isOneOf_33 : decode cX0_isOneOf 33 = .ok (.getstatic 107, 3) := by decide +kernel
theorem dX0_isOneOf_36 : decode cX0_isOneOf 36 = .ok (.iload_n 3, 1) := by decide +kernel
theorem dX0_isOneOf_37 : decode cX0_isOneOf 37 = .ok (.iaload, 1) := by decide +kernel
theorem dX0_isOneOf_38 : decode cX0_isOneOf 38 = .ok (.istore_n 3, 1) := by decide +kernel
theorem dX0_isOneOf_39 : decode cX0_isOneOf 39 = .ok (.iinc 4 1, 3) := by decide +kernel
theorem dX0_isOneOf_42 : decode cX0_isOneOf 42 = .ok (.goto (-32), 3) := by decide +kernel
theorem dX0_isOneOf_45 : decode cX0_isOneOf 45 = .ok (.iconst 0, 1) := by decide +kernel
theorem dX0_isOneOf_46 : decode cX0_isOneOf 46 = .ok (.ireturn, 1) := by decide +kernel
theorem dX0_heatersOf_0 : decode cX0_heatersOf 0 = .ok (.iconst 0, 1) := by decide +kernel
theorem dX0_heatersOf_1 : decode cX0_heatersOf 1 = .ok (.istore_n 2, 1) := by decide +kernel
theorem dX0_heatersOf_2 : decode cX0_heatersOf 2 = .ok (.iconst 0, 1) := by decide +kernel
theorem dX0_heatersOf_3 : decode cX0_heatersOf 3 = .ok (.istore_n 3, 1) := by decide +kernel
theorem dX0_heatersOf_4 : decode cX0_heatersOf 4 = .ok (.iload_n 3, 1) := by decide +kernel
theorem dX0_heatersOf_5 : decode cX0_heatersOf 5 = .ok (.aload_n 0, 1) := by decide +kernel
theorem dX0_heatersOf_6 : decode cX0_heatersOf 6 = .ok (.getfield 55, 3) := by decide +kernel
theorem dX0_heatersOf_9 : decode cX0_heatersOf 9 = .ok (.if_icmp .ge 25, 3) := by decide +kernel
theorem dX0_heatersOf_12 : decode cX0_heatersOf 12 = .ok (.aload_n 0, 1) := by decide +kernel
theorem dX0_heatersOf_13 : decode cX0_heatersOf 13 = .ok (.getfield 31, 3) := by decide +kernel
theorem dX0_heatersOf_16 : decode cX0_heatersOf 16 = .ok (.iload_n 3, 1) := by decide +kernel
theorem dX0_heatersOf_17 : decode cX0_heatersOf 17 = .ok (.iaload, 1) := by decide +kernel
theorem dX0_heatersOf_18 : decode cX0_heatersOf 18 = .ok (.iload_n 1, 1) := by decide +kernel
theorem dX0_heatersOf_19 : decode cX0_heatersOf 19 = .ok (.if_icmp .ne 9, 3) := by decide +kernel
theorem dX0_heatersOf_22 : decode cX0_heatersOf 22 = .ok (.iload_n 2, 1) := by decide +kernel
theorem dX0_heatersOf_23 : decode cX0_heatersOf 23 = .ok (.iconst 1, 1) := by decide +kernel
theorem dX0_heatersOf_24 : decode cX0_heatersOf 24 = .ok (.iload_n 3, 1) := by decide +kernel
theorem dX0_heatersOf_25 : decode cX0_heatersOf 25 = .ok (.ishl, 1) := by decide +kernel
theorem dX0_heatersOf_26 : decode cX0_heatersOf 26 = .ok (.ior, 1) := by decide +kernel
theorem dX0_heatersOf_27 : decode cX0_heatersOf 27 = .ok (.istore_n 2, 1) := by decide +kernel
theorem dX0_heatersOf_28 : decode cX0_heatersOf 28 = .ok (.iinc 3 1, 3) := by decide +kernel
theorem dX0_heatersOf_31 : decode cX0_heatersOf 31 = .ok (.goto (-27), 3) := by decide +kernel
theorem dX0_heatersOf_34 : decode cX0_heatersOf 34 = .ok (.iload_n 2, 1) := by decide +kernel
theorem dX0_heatersOf_35 : decode cX0_heatersOf 35 = .ok (.ireturn, 1) := by decide +kernel
theorem dX0_reachedFrom_0 : decode cX0_reachedFrom 0 = .ok (.iconst 0, 1) := by decide +kernel
theorem dX0_reachedFrom_1 : decode cX0_reachedFrom 1 = .ok (.istore_n 2, 1) := by decide +kernel
theorem dX0_reachedFrom_2 : decode cX0_reachedFrom 2 = .ok (.aload_n 0, 1) := by decide +kernel
theorem dX0_reachedFrom_3 : decode cX0_reachedFrom 3 = .ok (.getfield 31, 3) := by decide +kernel
theorem dX0_reachedFrom_6 : decode cX0_reachedFrom 6 = .ok (.iload_n 1, 1) := by decide +kernel
theorem dX0_reachedFrom_7 : decode cX0_reachedFrom 7 = .ok (.iaload, 1) := by decide +kernel
theorem dX0_reachedFrom_8 : decode cX0_reachedFrom 8 = .ok (.istore_n 3, 1) := by decide +kernel
theorem dX0_reachedFrom_9 : decode cX0_reachedFrom 9 = .ok (.iconst 0, 1) := by decide +kernel
theorem dX0_reachedFrom_10 : decode cX0_reachedFrom 10 = .ok (.istore 4, 2) := by decide +kernel
theorem dX0_reachedFrom_12 : decode cX0_reachedFrom 12 = .ok (.iload 4, 2) := by decide +kernel
theorem dX0_reachedFrom_14 : decode cX0_reachedFrom 14 = .ok (.aload_n 0, 1) := by decide +kernel
theorem dX0_reachedFrom_15 : decode cX0_reachedFrom 15 = .ok (.getfield 55, 3) := by decide +kernel
theorem dX0_reachedFrom_18 : decode cX0_reachedFrom 18 = .ok (.if_icmp .ge 30, 3) := by decide +kernel
theorem dX0_reachedFrom_21 : decode cX0_reachedFrom 21 = .ok (.aload_n 0, 1) := by decide +kernel
theorem dX0_reachedFrom_22 : decode cX0_reachedFrom 22 = .ok (.iload_n 3, 1) := by decide +kernel
theorem dX0_reachedFrom_23 : decode cX0_reachedFrom 23 = .ok (.invokevirtual 58, 3) := by decide +kernel
theorem dX0_reachedFrom_26 : decode cX0_reachedFrom 26 = .ok (.ifCond .eq 22, 3) := by decide +kernel
theorem dX0_reachedFrom_29 : decode cX0_reachedFrom 29 = .ok (.iload_n 2, 1) := by decide +kernel
theorem dX0_reachedFrom_30 : decode cX0_reachedFrom 30 = .ok (.iconst 1, 1) := by decide +kernel
theorem dX0_reachedFrom_31 : decode cX0_reachedFrom 31 = .ok (.iload_n 3, 1) := by decide +kernel
theorem dX0_reachedFrom_32 : decode cX0_reachedFrom 32 = .ok (.ishl, 1) := by decide +kernel
theorem dX0_reachedFrom_33 : decode cX0_reachedFrom 33 = .ok (.ior, 1) := by decide +kernel
theorem dX0_reachedFrom_34 : decode cX0_reachedFrom 34 = .ok (.istore_n 2, 1) := by decide +kernel
theorem dX0_reachedFrom_35 : decode cX0_reachedFrom 35 = .ok (.aload_n 0, 1) := by decide +kernel
theorem dX0_reachedFrom_36 : decode cX0_reachedFrom 36 = .ok (.getfield 31, 3) := by decide +kernel
theorem dX0_reachedFrom_39 : decode cX0_reachedFrom 39 = .ok (.iload_n 3, 1) := by decide +kernel
theorem dX0_reachedFrom_40 : decode cX0_reachedFrom 40 = .ok (.iaload, 1) := by decide +kernel
theorem dX0_reachedFrom_41 : decode cX0_reachedFrom 41 = .ok (.istore_n 3, 1) := by decide +kernel
theorem dX0_reachedFrom_42 : decode cX0_reachedFrom 42 = .ok (.iinc 4 1, 3) := by decide +kernel
theorem dX0_reachedFrom_45 : decode cX0_reachedFrom 45 = .ok (.goto (-33), 3) := by decide +kernel
theorem dX0_reachedFrom_48 : decode cX0_reachedFrom 48 = .ok (.iload_n 2, 1) := by decide +kernel
theorem dX0_reachedFrom_49 : decode cX0_reachedFrom 49 = .ok (.ireturn, 1) := by decide +kernel
theorem dX0_coldRooms_0 : decode cX0_coldRooms 0 = .ok (.iconst 0, 1) := by decide +kernel
theorem dX0_coldRooms_1 : decode cX0_coldRooms 1 = .ok (.istore_n 1, 1) := by decide +kernel
theorem dX0_coldRooms_2 : decode cX0_coldRooms 2 = .ok (.iconst 0, 1) := by decide +kernel
theorem dX0_coldRooms_3 : decode cX0_coldRooms 3 = .ok (.istore_n 2, 1) := by decide +kernel
theorem dX0_coldRooms_4 : decode cX0_coldRooms 4 = .ok (.iload_n 2, 1) := by decide +kernel
theorem dX0_coldRooms_5 : decode cX0_coldRooms 5 = .ok (.aload_n 0, 1) := by decide +kernel
theorem dX0_coldRooms_6 : decode cX0_coldRooms 6 = .ok (.getfield 55, 3) := by decide +kernel
theorem dX0_coldRooms_9 : decode cX0_coldRooms 9 = .ok (.if_icmp .ge 26, 3) := by decide +kernel
theorem dX0_coldRooms_12 : decode cX0_coldRooms 12 = .ok (.aload_n 0, 1) := by decide +kernel
theorem dX0_coldRooms_13 : decode cX0_coldRooms 13 = .ok (.getfield 22, 3) := by decide +kernel
theorem dX0_coldRooms_16 : decode cX0_coldRooms 16 = .ok (.iload_n 2, 1) := by decide +kernel
theorem dX0_coldRooms_17 : decode cX0_coldRooms 17 = .ok (.iaload, 1) := by decide +kernel
theorem dX0_coldRooms_18 : decode cX0_coldRooms 18 = .ok (.bipush 60, 2) := by decide +kernel
theorem dX0_coldRooms_20 : decode cX0_coldRooms 20 = .ok (.if_icmp .ge 9, 3) := by decide +kernel
theorem dX0_coldRooms_23 : decode cX0_coldRooms 23 = .ok (.iload_n 1, 1) := by decide +kernel
theorem dX0_coldRooms_24 : decode cX0_coldRooms 24 = .ok (.iconst 1, 1) := by decide +kernel
theorem dX0_coldRooms_25 : decode cX0_coldRooms 25 = .ok (.iload_n 2, 1) := by decide +kernel
theorem dX0_coldRooms_26 : decode cX0_coldRooms 26 = .ok (.ishl, 1) := by decide +kernel
theorem dX0_coldRooms_27 : decode cX0_coldRooms 27 = .ok (.ior, 1) := by decide +kernel
theorem dX0_coldRooms_28 : decode cX0_coldRooms 28 = .ok (.istore_n 1, 1) := by decide +kernel
theorem dX0_coldRooms_29 : decode cX0_coldRooms 29 = .ok (.iinc 2 1, 3) := by decide +kernel
theorem dX0_coldRooms_32 : decode cX0_coldRooms 32 = .ok (.goto (-28), 3) := by decide +kernel
theorem dX0_coldRooms_35 : decode cX0_coldRooms 35 = .ok (.iload_n 1, 1) := by decide +kernel
theorem dX0_coldRooms_36 : decode cX0_coldRooms 36 = .ok (.ireturn, 1) := by decide +kernel
theorem dX0_awayRooms_0 : decode cX0_awayRooms 0 = .ok (.iconst 0, 1) := by decide +kernel
theorem dX0_awayRooms_1 : decode cX0_awayRooms 1 = .ok (.istore_n 1, 1) := by decide +kernel
theorem dX0_awayRooms_2 : decode cX0_awayRooms 2 = .ok (.iconst 0, 1) := by decide +kernel
theorem dX0_awayRooms_3 : decode cX0_awayRooms 3 = .ok (.istore_n 2, 1) := by decide +kernel
theorem dX0_awayRooms_4 : decode cX0_awayRooms 4 = .ok (.iload_n 2, 1) := by decide +kernel
theorem dX0_awayRooms_5 : decode cX0_awayRooms 5 = .ok (.aload_n 0, 1) := by decide +kernel
theorem dX0_awayRooms_6 : decode cX0_awayRooms 6 = .ok (.getfield 55, 3) := by decide +kernel
theorem dX0_awayRooms_9 : decode cX0_awayRooms 9 = .ok (.if_icmp .ge 25, 3) := by decide +kernel
theorem dX0_awayRooms_12 : decode cX0_awayRooms 12 = .ok (.aload_n 0, 1) := by decide +kernel
theorem dX0_awayRooms_13 : decode cX0_awayRooms 13 = .ok (.getfield 34, 3) := by decide +kernel
theorem dX0_awayRooms_16 : decode cX0_awayRooms 16 = .ok (.iload_n 2, 1) := by decide +kernel
theorem dX0_awayRooms_17 : decode cX0_awayRooms 17 = .ok (.iaload, 1) := by decide +kernel
theorem dX0_awayRooms_18 : decode cX0_awayRooms 18 = .ok (.iconst 1, 1) := by decide +kernel
theorem dX0_awayRooms_19 : decode cX0_awayRooms 19 = .ok (.if_icmp .ne 9, 3) := by decide +kernel
theorem dX0_awayRooms_22 : decode cX0_awayRooms 22 = .ok (.iload_n 1, 1) := by decide +kernel
theorem dX0_awayRooms_23 : decode cX0_awayRooms 23 = .ok (.iconst 1, 1) := by decide +kernel
theorem dX0_awayRooms_24 : decode cX0_awayRooms 24 = .ok (.iload_n 2, 1) := by decide +kernel
theorem dX0_awayRooms_25 : decode cX0_awayRooms 25 = .ok (.ishl, 1) := by decide +kernel
theorem dX0_awayRooms_26 : decode cX0_awayRooms 26 = .ok (.ior, 1) := by decide +kernel
theorem dX0_awayRooms_27 : decode cX0_awayRooms 27 = .ok (.istore_n 1, 1) := by decide +kernel
theorem dX0_awayRooms_28 : decode cX0_awayRooms 28 = .ok (.iinc 2 1, 3) := by decide +kernel
theorem dX0_awayRooms_31 : decode cX0_awayRooms 31 = .ok (.goto (-27), 3) := by decide +kernel
theorem dX0_awayRooms_34 : decode cX0_awayRooms 34 = .ok (.iload_n 1, 1) := by decide +kernel
theorem dX0_awayRooms_35 : decode cX0_awayRooms 35 = .ok (.ireturn, 1) := by decide +kernel
theorem dX0_warmerThan_0 : decode cX0_warmerThan 0 = .ok (.iconst 0, 1) := by decide +kernel
theorem dX0_warmerThan_1 : decode cX0_warmerThan 1 = .ok (.istore_n 2, 1) := by decide +kernel
theorem dX0_warmerThan_2 : decode cX0_warmerThan 2 = .ok (.iconst 0, 1) := by decide +kernel
theorem dX0_warmerThan_3 : decode cX0_warmerThan 3 = .ok (.istore_n 3, 1) := by decide +kernel
theorem dX0_warmerThan_4 : decode cX0_warmerThan 4 = .ok (.iload_n 3, 1) := by decide +kernel
theorem dX0_warmerThan_5 : decode cX0_warmerThan 5 = .ok (.aload_n 0, 1) := by decide +kernel
theorem dX0_warmerThan_6 : decode cX0_warmerThan 6 = .ok (.getfield 55, 3) := by decide +kernel
theorem dX0_warmerThan_9 : decode cX0_warmerThan 9 = .ok (.if_icmp .ge 30, 3) := by decide +kernel
theorem dX0_warmerThan_12 : decode cX0_warmerThan 12 = .ok (.aload_n 0, 1) := by decide +kernel
theorem dX0_warmerThan_13 : decode cX0_warmerThan 13 = .ok (.getfield 22, 3) := by decide +kernel
theorem dX0_warmerThan_16 : decode cX0_warmerThan 16 = .ok (.iload_n 3, 1) := by decide +kernel
theorem dX0_warmerThan_17 : decode cX0_warmerThan 17 = .ok (.iaload, 1) := by decide +kernel
theorem dX0_warmerThan_18 : decode cX0_warmerThan 18 = .ok (.aload_n 1, 1) := by decide +kernel
theorem dX0_warmerThan_19 : decode cX0_warmerThan 19 = .ok (.getfield 22, 3) := by decide +kernel
theorem dX0_warmerThan_22 : decode cX0_warmerThan 22 = .ok (.iload_n 3, 1) := by decide +kernel
theorem dX0_warmerThan_23 : decode cX0_warmerThan 23 = .ok (.iaload, 1) := by decide +kernel
theorem dX0_warmerThan_24 : decode cX0_warmerThan 24 = .ok (.if_icmp .le 9, 3) := by decide +kernel
theorem dX0_warmerThan_27 : decode cX0_warmerThan 27 = .ok (.iload_n 2, 1) := by decide +kernel
theorem dX0_warmerThan_28 : decode cX0_warmerThan 28 = .ok (.iconst 1, 1) := by decide +kernel
theorem dX0_warmerThan_29 : decode cX0_warmerThan 29 = .ok (.iload_n 3, 1) := by decide +kernel
theorem dX0_warmerThan_30 : decode cX0_warmerThan 30 = .ok (.ishl, 1) := by decide +kernel
theorem dX0_warmerThan_31 : decode cX0_warmerThan 31 = .ok (.ior, 1) := by decide +kernel
theorem dX0_warmerThan_32 : decode cX0_warmerThan 32 = .ok (.istore_n 2, 1) := by decide +kernel
theorem dX0_warmerThan_33 : decode cX0_warmerThan 33 = .ok (.iinc 3 1, 3) := by decide +kernel
theorem dX0_warmerThan_36 : decode cX0_warmerThan 36 = .ok (.goto (-32), 3) := by decide +kernel
theorem dX0_warmerThan_39 : decode cX0_warmerThan 39 = .ok (.iload_n 2, 1) := by decide +kernel
theorem dX0_warmerThan_40 : decode cX0_warmerThan 40 = .ok (.ireturn, 1) := by decide +kernel
theorem dX0_sumOf_0 : decode cX0_sumOf 0 = .ok (.iconst 0, 1) := by decide +kernel
theorem dX0_sumOf_1 : decode cX0_sumOf 1 = .ok (.istore_n 2, 1) := by decide +kernel
theorem dX0_sumOf_2 : decode cX0_sumOf 2 = .ok (.iconst 0, 1) := by decide +kernel
theorem dX0_sumOf_3 : decode cX0_sumOf 3 = .ok (.istore_n 3, 1) := by decide +kernel
theorem dX0_sumOf_4 : decode cX0_sumOf 4 = .ok (.iload_n 3, 1) := by decide +kernel
theorem dX0_sumOf_5 : decode cX0_sumOf 5 = .ok (.aload_n 0, 1) := by decide +kernel
theorem dX0_sumOf_6 : decode cX0_sumOf 6 = .ok (.getfield 55, 3) := by decide +kernel
theorem dX0_sumOf_9 : decode cX0_sumOf 9 = .ok (.if_icmp .ge 15, 3) := by decide +kernel
theorem dX0_sumOf_12 : decode cX0_sumOf 12 = .ok (.iload_n 2, 1) := by decide +kernel
theorem dX0_sumOf_13 : decode cX0_sumOf 13 = .ok (.aload_n 1, 1) := by decide +kernel
theorem dX0_sumOf_14 : decode cX0_sumOf 14 = .ok (.iload_n 3, 1) := by decide +kernel
theorem dX0_sumOf_15 : decode cX0_sumOf 15 = .ok (.iaload, 1) := by decide +kernel
theorem dX0_sumOf_16 : decode cX0_sumOf 16 = .ok (.iadd, 1) := by decide +kernel
theorem dX0_sumOf_17 : decode cX0_sumOf 17 = .ok (.istore_n 2, 1) := by decide +kernel
theorem dX0_sumOf_18 : decode cX0_sumOf 18 = .ok (.iinc 3 1, 3) := by decide +kernel
theorem dX0_sumOf_21 : decode cX0_sumOf 21 = .ok (.goto (-17), 3) := by decide +kernel
theorem dX0_sumOf_24 : decode cX0_sumOf 24 = .ok (.iload_n 2, 1) := by decide +kernel
theorem dX0_sumOf_25 : decode cX0_sumOf 25 = .ok (.ireturn, 1) := by decide +kernel
theorem dX0_leastWarmth_0 : decode cX0_leastWarmth 0 = .ok (.aload_n 0, 1) := by decide +kernel
theorem dX0_leastWarmth_1 : decode cX0_leastWarmth 1 = .ok (.invokevirtual 113, 3) := by decide +kernel
theorem dX0_leastWarmth_4 : decode cX0_leastWarmth 4 = .ok (.istore_n 1, 1) := by decide +kernel
theorem dX0_leastWarmth_5 : decode cX0_leastWarmth 5 = .ok (.iload_n 1, 1) := by decide +kernel
theorem dX0_leastWarmth_6 : decode cX0_leastWarmth 6 = .ok (.ifCond .ge 9, 3) := by decide +kernel
theorem dX0_leastWarmth_9 : decode cX0_leastWarmth 9 = .ok (.sipush 300, 3) := by decide +kernel
theorem dX0_leastWarmth_12 : decode cX0_leastWarmth 12 = .ok (.goto 9, 3) := by decide +kernel
theorem dX0_leastWarmth_15 : decode cX0_leastWarmth 15 = .ok (.aload_n 0, 1) := by decide +kernel
theorem dX0_leastWarmth_16 : decode cX0_leastWarmth 16 = .ok (.getfield 22, 3) := by decide +kernel
theorem dX0_leastWarmth_19 : decode cX0_leastWarmth 19 = .ok (.iload_n 1, 1) := by decide +kernel
theorem dX0_leastWarmth_20 : decode cX0_leastWarmth 20 = .ok (.iaload, 1) := by decide +kernel
theorem dX0_leastWarmth_21 : decode cX0_leastWarmth 21 = .ok (.ireturn, 1) := by decide +kernel
theorem dX0_coldestRoom_0 : decode cX0_coldestRoom 0 = .ok (.iconst (-1), 1) := by decide +kernel
theorem dX0_coldestRoom_1 : decode cX0_coldestRoom 1 = .ok (.istore_n 1, 1) := by decide +kernel
theorem dX0_coldestRoom_2 : decode cX0_coldestRoom 2 = .ok (.iconst 0, 1) := by decide +kernel
theorem dX0_coldestRoom_3 : decode cX0_coldestRoom 3 = .ok (.istore_n 2, 1) := by decide +kernel
theorem dX0_coldestRoom_4 : decode cX0_coldestRoom 4 = .ok (.iload_n 2, 1) := by decide +kernel
theorem dX0_coldestRoom_5 : decode cX0_coldestRoom 5 = .ok (.aload_n 0, 1) := by decide +kernel
theorem dX0_coldestRoom_6 : decode cX0_coldestRoom 6 = .ok (.getfield 55, 3) := by decide +kernel
theorem dX0_coldestRoom_9 : decode cX0_coldestRoom 9 = .ok (.if_icmp .ge 30, 3) := by decide +kernel
theorem dX0_coldestRoom_12 : decode cX0_coldestRoom 12 = .ok (.iload_n 1, 1) := by decide +kernel
theorem dX0_coldestRoom_13 : decode cX0_coldestRoom 13 = .ok (.ifCond .lt 18, 3) := by decide +kernel
theorem dX0_coldestRoom_16 : decode cX0_coldestRoom 16 = .ok (.aload_n 0, 1) := by decide +kernel
theorem dX0_coldestRoom_17 : decode cX0_coldestRoom 17 = .ok (.getfield 22, 3) := by decide +kernel
theorem dX0_coldestRoom_20 : decode cX0_coldestRoom 20 = .ok (.iload_n 2, 1) := by decide +kernel
theorem dX0_coldestRoom_21 : decode cX0_coldestRoom 21 = .ok (.iaload, 1) := by decide +kernel
theorem dX0_coldestRoom_22 : decode cX0_coldestRoom 22 = .ok (.aload_n 0, 1) := by decide +kernel
theorem dX0_coldestRoom_23 : decode cX0_coldestRoom 23 = .ok (.getfield 22, 3) := by decide +kernel
theorem dX0_coldestRoom_26 : decode cX0_coldestRoom 26 = .ok (.iload_n 1, 1) := by decide +kernel
theorem dX0_coldestRoom_27 : decode cX0_coldestRoom 27 = .ok (.iaload, 1) := by decide +kernel
theorem dX0_coldestRoom_28 : decode cX0_coldestRoom 28 = .ok (.if_icmp .ge 5, 3) := by decide +kernel
theorem dX0_coldestRoom_31 : decode cX0_coldestRoom 31 = .ok (.iload_n 2, 1) := by decide +kernel
theorem dX0_coldestRoom_32 : decode cX0_coldestRoom 32 = .ok (.istore_n 1, 1) := by decide +kernel
theorem dX0_coldestRoom_33 : decode cX0_coldestRoom 33 = .ok (.iinc 2 1, 3) := by decide +kernel
theorem dX0_coldestRoom_36 : decode cX0_coldestRoom 36 = .ok (.goto (-32), 3) := by decide +kernel
theorem dX0_coldestRoom_39 : decode cX0_coldestRoom 39 = .ok (.iload_n 1, 1) := by decide +kernel
theorem dX0_coldestRoom_40 : decode cX0_coldestRoom 40 = .ok (.ireturn, 1) := by decide +kernel
theorem dX0_spotsInUse_0 : decode cX0_spotsInUse 0 = .ok (.iconst 0, 1) := by decide +kernel
theorem dX0_spotsInUse_1 : decode cX0_spotsInUse 1 = .ok (.istore_n 1, 1) := by decide +kernel
theorem dX0_spotsInUse_2 : decode cX0_spotsInUse 2 = .ok (.iconst 0, 1) := by decide +kernel
theorem dX0_spotsInUse_3 : decode cX0_spotsInUse 3 = .ok (.istore_n 2, 1) := by decide +kernel
theorem dX0_spotsInUse_4 : decode cX0_spotsInUse 4 = .ok (.iload_n 2, 1) := by decide +kernel
theorem dX0_spotsInUse_5 : decode cX0_spotsInUse 5 = .ok (.bipush 10, 2) := by decide +kernel
theorem dX0_spotsInUse_7 : decode cX0_spotsInUse 7 = .ok (.if_icmp .ge 21, 3) := by decide +kernel
theorem dX0_spotsInUse_10 : decode cX0_spotsInUse 10 = .ok (.aload_n 0, 1) := by decide +kernel
theorem dX0_spotsInUse_11 : decode cX0_spotsInUse 11 = .ok (.getfield 46, 3) := by decide +kernel
theorem dX0_spotsInUse_14 : decode cX0_spotsInUse 14 = .ok (.iload_n 2, 1) := by decide +kernel
theorem dX0_spotsInUse_15 : decode cX0_spotsInUse 15 = .ok (.iaload, 1) := by decide +kernel
theorem dX0_spotsInUse_16 : decode cX0_spotsInUse 16 = .ok (.ifCond .lt 6, 3) := by decide +kernel
theorem dX0_spotsInUse_19 : decode cX0_spotsInUse 19 = .ok (.iinc 1 1, 3) := by decide +kernel
theorem dX0_spotsInUse_22 : decode cX0_spotsInUse 22 = .ok (.iinc 2 1, 3) := by decide +kernel
theorem dX0_spotsInUse_25 : decode cX0_spotsInUse 25 = .ok (.goto (-21), 3) := by decide +kernel
theorem dX0_spotsInUse_28 : decode cX0_spotsInUse 28 = .ok (.iload_n 1, 1) := by decide +kernel
theorem dX0_spotsInUse_29 : decode cX0_spotsInUse 29 = .ok (.ireturn, 1) := by decide +kernel
theorem dX0_draw_0 : decode cX0_draw 0 = .ok (.aload_n 0, 1) := by decide +kernel
theorem dX0_draw_1 : decode cX0_draw 1 = .ok (.aload_n 0, 1) := by decide +kernel
theorem dX0_draw_2 : decode cX0_draw 2 = .ok (.getfield 15, 3) := by decide +kernel
theorem dX0_draw_5 : decode cX0_draw 5 = .ok (.ldc 116, 2) := by decide +kernel
theorem dX0_draw_7 : decode cX0_draw 7 = .ok (.imul, 1) := by decide +kernel
theorem dX0_draw_8 : decode cX0_draw 8 = .ok (.sipush 12345, 3) := by decide +kernel
theorem dX0_draw_11 : decode cX0_draw 11 = .ok (.iadd, 1) := by decide +kernel
theorem dX0_draw_12 : decode cX0_draw 12 = .ok (.putfield 15, 3) := by decide +kernel
theorem dX0_draw_15 : decode cX0_draw 15 = .ok (.aload_n 0, 1) := by decide +kernel
theorem dX0_draw_16 : decode cX0_draw 16 = .ok (.getfield 15, 3) := by decide +kernel
theorem dX0_draw_19 : decode cX0_draw 19 = .ok (.bipush 8, 2) := by decide +kernel
theorem dX0_draw_21 : decode cX0_draw 21 = .ok (.iushr, 1) := by decide +kernel
theorem dX0_draw_22 : decode cX0_draw 22 = .ok (.ireturn, 1) := by decide +kernel
theorem dX0_gotAsIfColdBy_0 : decode cX0_gotAsIfColdBy 0 = .ok (.iconst 0, 1) := by decide +kernel
theorem dX0_gotAsIfColdBy_1 : decode cX0_gotAsIfColdBy 1 = .ok (.istore_n 2, 1) := by decide +kernel
theorem dX0_gotAsIfColdBy_2 : decode cX0_gotAsIfColdBy 2 = .ok (.iload_n 2, 1) := by decide +kernel
theorem dX0_gotAsIfColdBy_3 : decode cX0_gotAsIfColdBy 3 = .ok (.aload_n 0, 1) := by decide +kernel
theorem dX0_gotAsIfColdBy_4 : decode cX0_gotAsIfColdBy 4 = .ok (.getfield 55, 3) := by decide +kernel
theorem dX0_gotAsIfColdBy_7 : decode cX0_gotAsIfColdBy 7 = .ok (.if_icmp .ge 26, 3) := by decide +kernel
theorem dX0_gotAsIfColdBy_10 : decode cX0_gotAsIfColdBy 10 = .ok (.aload_n 0, 1) := by decide +kernel
theorem dX0_gotAsIfColdBy_11 : decode cX0_gotAsIfColdBy 11 = .ok (.getfield 40, 3) := by decide +kernel
theorem dX0_gotAsIfColdBy_14 : decode cX0_gotAsIfColdBy 14 = .ok (.iload_n 2, 1) := by decide +kernel
theorem dX0_gotAsIfColdBy_15 : decode cX0_gotAsIfColdBy 15 = .ok (.iaload, 1) := by decide +kernel
theorem dX0_gotAsIfColdBy_16 : decode cX0_gotAsIfColdBy 16 = .ok (.aload_n 0, 1) := by decide +kernel
theorem dX0_gotAsIfColdBy_17 : decode cX0_gotAsIfColdBy 17 = .ok (.iload_n 1, 1) := by decide +kernel
theorem dX0_gotAsIfColdBy_18 : decode cX0_gotAsIfColdBy 18 = .ok (.iload_n 2, 1) := by decide +kernel
theorem dX0_gotAsIfColdBy_19 : decode cX0_gotAsIfColdBy 19 = .ok (.invokevirtual 117, 3) := by decide +kernel
theorem dX0_gotAsIfColdBy_22 : decode cX0_gotAsIfColdBy 22 = .ok (.if_icmp .eq 5, 3) := by decide +kernel
theorem dX0_gotAsIfColdBy_25 : decode cX0_gotAsIfColdBy 25 = .ok (.iconst 0, 1) := by decide +kernel
theorem dX0_gotAsIfColdBy_26 : decode cX0_gotAsIfColdBy 26 = .ok (.ireturn, 1) := by decide +kernel
theorem dX0_gotAsIfColdBy_27 : decode cX0_gotAsIfColdBy 27 = .ok (.iinc 2 1, 3) := by decide +kernel
theorem dX0_gotAsIfColdBy_30 : decode cX0_gotAsIfColdBy 30 = .ok (.goto (-28), 3) := by decide +kernel
theorem dX0_gotAsIfColdBy_33 : decode cX0_gotAsIfColdBy 33 = .ok (.iconst 1, 1) := by decide +kernel
theorem dX0_gotAsIfColdBy_34 : decode cX0_gotAsIfColdBy 34 = .ok (.ireturn, 1) := by decide +kernel
theorem dX0_gotIfColdBy_0 : decode cX0_gotIfColdBy 0 = .ok (.iconst 0, 1) := by decide +kernel
theorem dX0_gotIfColdBy_1 : decode cX0_gotIfColdBy 1 = .ok (.istore_n 3, 1) := by decide +kernel
theorem dX0_gotIfColdBy_2 : decode cX0_gotIfColdBy 2 = .ok (.iconst 0, 1) := by decide +kernel
theorem dX0_gotIfColdBy_3 : decode cX0_gotIfColdBy 3 = .ok (.istore 4, 2) := by decide +kernel
theorem dX0_gotIfColdBy_5 : decode cX0_gotIfColdBy 5 = .ok (.iload 4, 2) := by decide +kernel
theorem dX0_gotIfColdBy_7 : decode cX0_gotIfColdBy 7 = .ok (.aload_n 0, 1) := by decide +kernel
theorem dX0_gotIfColdBy_8 : decode cX0_gotIfColdBy 8 = .ok (.getfield 55, 3) := by decide +kernel
theorem dX0_gotIfColdBy_11 : decode cX0_gotIfColdBy 11 = .ok (.if_icmp .ge 45, 3) := by decide +kernel
theorem dX0_gotIfColdBy_14 : decode cX0_gotIfColdBy 14 = .ok (.aload_n 0, 1) := by decide +kernel
theorem dX0_gotIfColdBy_15 : decode cX0_gotIfColdBy 15 = .ok (.getfield 31, 3) := by decide +kernel
theorem dX0_gotIfColdBy_18 : decode cX0_gotIfColdBy 18 = .ok (.iload 4, 2) := by decide +kernel
theorem dX0_gotIfColdBy_20 : decode cX0_gotIfColdBy 20 = .ok (.iaload, 1) := by decide +kernel
theorem dX0_gotIfColdBy_21 : decode cX0_gotIfColdBy 21 = .ok (.iload_n 2, 1) := by decide +kernel
theorem dX0_gotIfColdBy_22 : decode cX0_gotIfColdBy 22 = .ok (.if_icmp .ne 28, 3) := by decide +kernel
theorem dX0_gotIfColdBy_25 : decode cX0_gotIfColdBy 25 = .ok (.iload_n 1, 1) := by decide +kernel
theorem dX0_gotIfColdBy_26 : decode cX0_gotIfColdBy 26 = .ok (.iload 4, 2) := by decide +kernel
theorem dX0_gotIfColdBy_28 : decode cX0_gotIfColdBy 28 = .ok (.ishr, 1) := by decide +kernel
theorem dX0_gotIfColdBy_29 : decode cX0_gotIfColdBy 29 = .ok (.iconst 1, 1) := by decide +kernel
theorem dX0_gotIfColdBy_30 : decode cX0_gotIfColdBy 30 = .ok (.iand, 1) := by decide +kernel
theorem dX0_gotIfColdBy_31 : decode cX0_gotIfColdBy 31 = .ok (.ifCond .ne 19, 3) := by decide +kernel
theorem dX0_gotIfColdBy_34 : decode cX0_gotIfColdBy 34 = .ok (.iload_n 3, 1) := by decide +kernel
theorem dX0_gotIfColdBy_35 : decode cX0_gotIfColdBy 35 = .ok (.iconst 1, 1) := by decide +kernel
theorem dX0_gotIfColdBy_36 : decode cX0_gotIfColdBy 36 = .ok (.aload_n 0, 1) := by decide +kernel
theorem dX0_gotIfColdBy_37 : decode cX0_gotIfColdBy 37 = .ok (.getfield 37, 3) := by decide +kernel
theorem dX0_gotIfColdBy_40 : decode cX0_gotIfColdBy 40 = .ok (.iload 4, 2) := by decide +kernel
theorem dX0_gotIfColdBy_42 : decode cX0_gotIfColdBy 42 = .ok (.iaload, 1) := by decide +kernel
theorem dX0_gotIfColdBy_43 : decode cX0_gotIfColdBy 43 = .ok (.isub, 1) := by decide +kernel
theorem dX0_gotIfColdBy_44 : decode cX0_gotIfColdBy 44 = .ok (.iconst 0, 1) := by decide +kernel
theorem dX0_gotIfColdBy_45 : decode cX0_gotIfColdBy 45 = .ok (.invokestatic 100, 3) := by decide +kernel
theorem dX0_gotIfColdBy_48 : decode cX0_gotIfColdBy 48 = .ok (.iadd, 1) := by decide +kernel
theorem dX0_gotIfColdBy_49 : decode cX0_gotIfColdBy 49 = .ok (.istore_n 3, 1) := by decide +kernel
theorem dX0_gotIfColdBy_50 : decode cX0_gotIfColdBy 50 = .ok (.iinc 4 1, 3) := by decide +kernel
theorem dX0_gotIfColdBy_53 : decode cX0_gotIfColdBy 53 = .ok (.goto (-48), 3) := by decide +kernel
theorem dX0_gotIfColdBy_56 : decode cX0_gotIfColdBy 56 = .ok (.iload_n 3, 1) := by decide +kernel
theorem dX0_gotIfColdBy_57 : decode cX0_gotIfColdBy 57 = .ok (.ireturn, 1) := by decide +kernel
theorem dX1_init_0 : decode cX1_init 0 = .ok (.aload_n 0, 1) := by decide +kernel
theorem dX1_init_1 : decode cX1_init 1 = .ok (.invokespecial 3, 3) := by decide +kernel
theorem dX1_init_4 : decode cX1_init 4 = .ok (.aload_n 0, 1) := by decide +kernel
theorem dX1_init_5 : decode cX1_init 5 = .ok (.bipush 40, 2) := by decide +kernel
theorem dX1_init_7 : decode cX1_init 7 = .ok (.newarray .int, 2) := by decide +kernel
theorem dX1_init_9 : decode cX1_init 9 = .ok (.putfield 9, 3) := by decide +kernel
theorem dX1_init_12 : decode cX1_init 12 = .ok (.return_, 1) := by decide +kernel
theorem dX1_renew_0 : decode cX1_renew 0 = .ok (.aload_n 0, 1) := by decide +kernel
theorem dX1_renew_1 : decode cX1_renew 1 = .ok (.iload_n 1, 1) := by decide +kernel
theorem dX1_renew_2 : decode cX1_renew 2 = .ok (.putfield 15, 3) := by decide +kernel
theorem dX1_renew_5 : decode cX1_renew 5 = .ok (.aload_n 0, 1) := by decide +kernel
theorem dX1_renew_6 : decode cX1_renew 6 = .ok (.iload_n 1, 1) := by decide +kernel
theorem dX1_renew_7 : decode cX1_renew 7 = .ok (.ifCond .ne 7, 3) := by decide +kernel
theorem dX1_renew_10 : decode cX1_renew 10 = .ok (.iconst 0, 1) := by decide +kernel
theorem dX1_renew_11 : decode cX1_renew 11 = .ok (.goto 4, 3) := by decide +kernel
theorem dX1_renew_14 : decode cX1_renew 14 = .ok (.iload_n 2, 1) := by decide +kernel
theorem dX1_renew_15 : decode cX1_renew 15 = .ok (.putfield 19, 3) := by decide +kernel
theorem dX1_renew_18 : decode cX1_renew 18 = .ok (.aload_n 0, 1) := by decide +kernel
theorem dX1_renew_19 : decode cX1_renew 19 = .ok (.getfield 9, 3) := by decide +kernel
theorem dX1_renew_22 : decode cX1_renew 22 = .ok (.iconst 0, 1) := by decide +kernel
theorem dX1_renew_23 : decode cX1_renew 23 = .ok (.invokestatic 22, 3) := by decide +kernel
theorem dX1_renew_26 : decode cX1_renew 26 = .ok (.return_, 1) := by decide +kernel
theorem dX1_has_0 : decode cX1_has 0 = .ok (.iload_n 1, 1) := by decide +kernel
theorem dX1_has_1 : decode cX1_has 1 = .ok (.ifCond .lt 21, 3) := by decide +kernel
theorem dX1_has_4 : decode cX1_has 4 = .ok (.iload_n 2, 1) := by decide +kernel
theorem dX1_has_5 : decode cX1_has 5 = .ok (.ifCond .lt 17, 3) := by decide +kernel
theorem dX1_has_8 : decode cX1_has 8 = .ok (.iload_n 1, 1) := by decide +kernel
theorem dX1_has_9 : decode cX1_has 9 = .ok (.aload_n 0, 1) := by decide +kernel
theorem dX1_has_10 : decode cX1_has 10 = .ok (.getfield 19, 3) := by decide +kernel
theorem dX1_has_13 : decode cX1_has 13 = .ok (.iload_n 2, 1) := by decide +kernel
theorem dX1_has_14 : decode cX1_has 14 = .ok (.isub, 1) := by decide +kernel
theorem dX1_has_15 : decode cX1_has 15 = .ok (.if_icmp .gt 7, 3) := by decide +kernel
theorem dX1_has_18 : decode cX1_has 18 = .ok (.iconst 1, 1) := by decide +kernel
theorem dX1_has_19 : decode cX1_has 19 = .ok (.goto 4, 3) := by decide +kernel
theorem dX1_has_22 : decode cX1_has 22 = .ok (.iconst 0, 1) := by decide +kernel
theorem dX1_has_23 : decode cX1_has 23 = .ok (.ireturn, 1) := by decide +kernel
theorem dX1_put_0 : decode cX1_put 0 = .ok (.aload_n 0, 1) := by decide +kernel
theorem dX1_put_1 : decode cX1_put 1 = .ok (.getfield 9, 3) := by decide +kernel
theorem dX1_put_4 : decode cX1_put 4 = .ok (.iload_n 1, 1) := by decide +kernel
theorem dX1_put_5 : decode cX1_put 5 = .ok (.aload_n 0, 1) := by decide +kernel
theorem dX1_put_6 : decode cX1_put 6 = .ok (.getfield 15, 3) := by decide +kernel
theorem dX1_put_9 : decode cX1_put 9 = .ok (.bipush 8, 2) := by decide +kernel
theorem dX1_put_11 : decode cX1_put 11 = .ok (.if_icmp .ne 8, 3) := by decide +kernel
theorem dX1_put_14 : decode cX1_put 14 = .ok (.iload_n 2, 1) := by decide +kernel
theorem dX1_put_15 : decode cX1_put 15 = .ok (.i2b, 1) := by decide +kernel
theorem dX1_put_16 : decode cX1_put 16 = .ok (.goto 18, 3) := by decide +kernel
theorem dX1_put_19 : decode cX1_put 19 = .ok (.aload_n 0, 1) := by decide +kernel
theorem dX1_put_20 : decode cX1_put 20 = .ok (.getfield 15, 3) := by decide +kernel
theorem dX1_put_23 : decode cX1_put 23 = .ok (.bipush 16, 2) := by decide +kernel
theorem dX1_put_25 : decode cX1_put 25 = .ok (.if_icmp .ne 8, 3) := by decide +kernel
theorem dX1_put_28 : decode cX1_put 28 = .ok (.iload_n 2, 1) := by decide +kernel
theorem dX1_put_29 : decode cX1_put 29 = .ok (.i2s, 1) := by decide +kernel
theorem dX1_put_30 : decode cX1_put 30 = .ok (.goto 4, 3) := by decide +kernel
theorem dX1_put_33 : decode cX1_put 33 = .ok (.iload_n 2, 1) := by decide +kernel
theorem dX1_put_34 : decode cX1_put 34 = .ok (.iastore, 1) := by decide +kernel
theorem dX1_put_35 : decode cX1_put 35 = .ok (.return_, 1) := by decide +kernel
theorem dX2_init_0 : decode cX2_init 0 = .ok (.aload_n 0, 1) := by decide +kernel
theorem dX2_init_1 : decode cX2_init 1 = .ok (.invokespecial 3, 3) := by decide +kernel
theorem dX2_init_4 : decode cX2_init 4 = .ok (.aload_n 0, 1) := by decide +kernel
theorem dX2_init_5 : decode cX2_init 5 = .ok (.bipush 120, 2) := by decide +kernel
theorem dX2_init_7 : decode cX2_init 7 = .ok (.newarray .int, 2) := by decide +kernel
theorem dX2_init_9 : decode cX2_init 9 = .ok (.putfield 9, 3) := by decide +kernel
theorem dX2_init_12 : decode cX2_init 12 = .ok (.return_, 1) := by decide +kernel
theorem dX2_append_0 : decode cX2_append 0 = .ok (.iload_n 2, 1) := by decide +kernel
theorem dX2_append_1 : decode cX2_append 1 = .ok (.iconst 1, 1) := by decide +kernel
theorem dX2_append_2 : decode cX2_append 2 = .ok (.isub, 1) := by decide +kernel
theorem dX2_append_3 : decode cX2_append 3 = .ok (.istore_n 3, 1) := by decide +kernel
theorem dX2_append_4 : decode cX2_append 4 = .ok (.iload_n 3, 1) := by decide +kernel
theorem dX2_append_5 : decode cX2_append 5 = .ok (.ifCond .lt 54, 3) := by decide +kernel
theorem dX2_append_8 : decode cX2_append 8 = .ok (.aload_n 0, 1) := by decide +kernel
theorem dX2_append_9 : decode cX2_append 9 = .ok (.getfield 15, 3) := by decide +kernel
theorem dX2_append_12 : decode cX2_append 12 = .ok (.ifCond .lt 47, 3) := by decide +kernel
theorem dX2_append_15 : decode cX2_append 15 = .ok (.aload_n 0, 1) := by decide +kernel
theorem dX2_append_16 : decode cX2_append 16 = .ok (.getfield 15, 3) := by decide +kernel
theorem dX2_append_19 : decode cX2_append 19 = .ok (.bipush 120, 2) := by decide +kernel
theorem dX2_append_21 : decode cX2_append 21 = .ok (.if_icmp .ge 38, 3) := by decide +kernel
theorem dX2_append_24 : decode cX2_append 24 = .ok (.aload_n 0, 1) := by decide +kernel
theorem dX2_append_25 : decode cX2_append 25 = .ok (.getfield 9, 3) := by decide +kernel
theorem dX2_append_28 : decode cX2_append 28 = .ok (.aload_n 0, 1) := by decide +kernel
theorem dX2_append_29 : decode cX2_append 29 = .ok (.getfield 15, 3) := by decide +kernel
theorem dX2_append_32 : decode cX2_append 32 = .ok (.iload_n 1, 1) := by decide +kernel
theorem dX2_append_33 : decode cX2_append 33 = .ok (.bipush 8, 2) := by decide +kernel
theorem dX2_append_35 : decode cX2_append 35 = .ok (.iload_n 3, 1) := by decide +kernel
theorem dX2_append_36 : decode cX2_append 36 = .ok (.imul, 1) := by decide +kernel
theorem dX2_append_37 : decode cX2_append 37 = .ok (.iushr, 1) := by decide +kernel
theorem dX2_append_38 : decode cX2_append 38 = .ok (.sipush 255, 3) := by decide +kernel
theorem dX2_append_41 : decode cX2_append 41 = .ok (.iand, 1) := by decide +kernel
theorem dX2_append_42 : decode cX2_append 42 = .ok (.iastore, 1) := by decide +kernel
theorem dX2_append_43 : decode cX2_append 43 = .ok (.aload_n 0, 1) := by decide +kernel
theorem dX2_append_44 : decode cX2_append 44 = .ok (.dup, 1) := by decide +kernel
theorem dX2_append_45 : decode cX2_append 45 = .ok (.getfield 15, 3) := by decide +kernel
theorem dX2_append_48 : decode cX2_append 48 = .ok (.iconst 1, 1) := by decide +kernel
theorem dX2_append_49 : decode cX2_append 49 = .ok (.iadd, 1) := by decide +kernel
theorem dX2_append_50 : decode cX2_append 50 = .ok (.putfield 15, 3) := by decide +kernel
theorem dX2_append_53 : decode cX2_append 53 = .ok (.iinc 3 (-1), 3) := by decide +kernel
theorem dX2_append_56 : decode cX2_append 56 = .ok (.goto (-52), 3) := by decide +kernel
theorem dX2_append_59 : decode cX2_append 59 = .ok (.return_, 1) := by decide +kernel
theorem dX2_byteAt_0 : decode cX2_byteAt 0 = .ok (.iload_n 1, 1) := by decide +kernel
theorem dX2_byteAt_1 : decode cX2_byteAt 1 = .ok (.ifCond .lt 26, 3) := by decide +kernel
theorem dX2_byteAt_4 : decode cX2_byteAt 4 = .ok (.iload_n 1, 1) := by decide +kernel
theorem dX2_byteAt_5 : decode cX2_byteAt 5 = .ok (.aload_n 0, 1) := by decide +kernel
theorem dX2_byteAt_6 : decode cX2_byteAt 6 = .ok (.getfield 15, 3) := by decide +kernel
theorem dX2_byteAt_9 : decode cX2_byteAt 9 = .ok (.if_icmp .ge 18, 3) := by decide +kernel
theorem dX2_byteAt_12 : decode cX2_byteAt 12 = .ok (.iload_n 1, 1) := by decide +kernel
theorem dX2_byteAt_13 : decode cX2_byteAt 13 = .ok (.bipush 120, 2) := by decide +kernel
theorem dX2_byteAt_15 : decode cX2_byteAt 15 = .ok (.if_icmp .ge 12, 3) := by decide +kernel
theorem dX2_byteAt_18 : decode cX2_byteAt 18 = .ok (.aload_n 0, 1) := by decide +kernel
theorem dX2_byteAt_19 : decode cX2_byteAt 19 = .ok (.getfield 9, 3) := by decide +kernel
theorem dX2_byteAt_22 : decode cX2_byteAt 22 = .ok (.iload_n 1, 1) := by decide +kernel
theorem dX2_byteAt_23 : decode cX2_byteAt 23 = .ok (.iaload, 1) := by decide +kernel
theorem dX2_byteAt_24 : decode cX2_byteAt 24 = .ok (.goto 4, 3) := by decide +kernel
theorem dX2_byteAt_27 : decode cX2_byteAt 27 = .ok (.iconst (-1), 1) := by decide +kernel
theorem dX2_byteAt_28 : decode cX2_byteAt 28 = .ok (.ireturn, 1) := by decide +kernel
theorem dX3_init_0 : decode cX3_init 0 = .ok (.aload_n 0, 1) := by decide +kernel
theorem dX3_init_1 : decode cX3_init 1 = .ok (.invokespecial 3, 3) := by decide +kernel
theorem dX3_init_4 : decode cX3_init 4 = .ok (.aload_n 0, 1) := by decide +kernel
theorem dX3_init_5 : decode cX3_init 5 = .ok (.new 9, 3) := by decide +kernel
theorem dX3_init_8 : decode cX3_init 8 = .ok (.dup, 1) := by decide +kernel
theorem dX3_init_9 : decode cX3_init 9 = .ok (.invokespecial 11, 3) := by decide +kernel
theorem dX3_init_12 : decode cX3_init 12 = .ok (.putfield 12, 3) := by decide +kernel
theorem dX3_init_15 : decode cX3_init 15 = .ok (.aload_n 0, 1) := by decide +kernel
theorem dX3_init_16 : decode cX3_init 16 = .ok (.new 18, 3) := by decide +kernel
theorem dX3_init_19 : decode cX3_init 19 = .ok (.dup, 1) := by decide +kernel
theorem dX3_init_20 : decode cX3_init 20 = .ok (.invokespecial 20, 3) := by decide +kernel
theorem dX3_init_23 : decode cX3_init 23 = .ok (.putfield 21, 3) := by decide +kernel
theorem dX3_init_26 : decode cX3_init 26 = .ok (.return_, 1) := by decide +kernel
theorem dX3_read_0 : decode cX3_read 0 = .ok (.aload_n 0, 1) := by decide +kernel
theorem dX3_read_1 : decode cX3_read 1 = .ok (.getfield 21, 3) := by decide +kernel
theorem dX3_read_4 : decode cX3_read 4 = .ok (.aload_n 1, 1) := by decide +kernel
theorem dX3_read_5 : decode cX3_read 5 = .ok (.invokevirtual 25, 3) := by decide +kernel
theorem dX3_read_8 : decode cX3_read 8 = .ok (.aload_n 0, 1) := by decide +kernel
theorem dX3_read_9 : decode cX3_read 9 = .ok (.iconst 0, 1) := by decide +kernel
theorem dX3_read_10 : decode cX3_read 10 = .ok (.putfield 29, 3) := by decide +kernel
theorem dX3_read_13 : decode cX3_read 13 = .ok (.aload_n 0, 1) := by decide +kernel
theorem dX3_read_14 : decode cX3_read 14 = .ok (.invokevirtual 33, 3) := by decide +kernel
theorem dX3_read_17 : decode cX3_read 17 = .ok (.iconst 1, 1) := by decide +kernel
theorem dX3_read_18 : decode cX3_read 18 = .ok (.istore_n 2, 1) := by decide +kernel
theorem dX3_read_19 : decode cX3_read 19 = .ok (.iload_n 2, 1) := by decide +kernel
theorem dX3_read_20 : decode cX3_read 20 = .ok (.bipush 120, 2) := by decide +kernel
theorem dX3_read_22 : decode cX3_read 22 = .ok (.if_icmp .gt 48, 3) := by decide +kernel
theorem dX3_read_25 : decode cX3_read 25 = .ok (.aload_n 0, 1) := by decide +kernel
theorem dX3_read_26 : decode cX3_read 26 = .ok (.invokevirtual 36, 3) := by decide +kernel
theorem dX3_read_29 : decode cX3_read 29 = .ok (.ifCond .eq 41, 3) := by decide +kernel
theorem dX3_read_32 : decode cX3_read 32 = .ok (.aload_n 0, 1) := by decide +kernel
theorem dX3_read_33 : decode cX3_read 33 = .ok (.getfield 40, 3) := by decide +kernel
theorem dX3_read_36 : decode cX3_read 36 = .ok (.ifCond .ne 13, 3) := by decide +kernel
theorem dX3_read_39 : decode cX3_read 39 = .ok (.aload_n 1, 1) := by decide +kernel
theorem dX3_read_40 : decode cX3_read 40 = .ok (.aload_n 0, 1) := by decide +kernel
theorem dX3_read_41 : decode cX3_read 41 = .ok (.getfield 21, 3) := by decide +kernel
theorem dX3_read_44 : decode cX3_read 44 = .ok (.invokevirtual 25, 3) := by decide +kernel
theorem dX3_read_47 : decode cX3_read 47 = .ok (.iload_n 2, 1) := by decide +kernel
theorem dX3_read_48 : decode cX3_read 48 = .ok (.ireturn, 1) := by decide +kernel
theorem dX3_read_49 : decode cX3_read 49 = .ok (.aload_n 0, 1) := by decide +kernel
theorem dX3_read_50 : decode cX3_read 50 = .ok (.getfield 40, 3) := by decide +kernel
theorem dX3_read_53 : decode cX3_read 53 = .ok (.iconst 3, 1) := by decide +kernel
theorem dX3_read_54 : decode cX3_read 54 = .ok (.if_icmp .eq 6, 3) := by decide +kernel
theorem dX3_read_57 : decode cX3_read 57 = .ok (.goto 13, 3) := by decide +kernel
theorem dX3_read_60 : decode cX3_read 60 = .ok (.aload_n 0, 1) := by decide +kernel
theorem dX3_read_61 : decode cX3_read 61 = .ok (.invokevirtual 33, 3) := by decide +kernel
theorem dX3_read_64 : decode cX3_read 64 = .ok (.iinc 2 1, 3) := by decide +kernel
theorem dX3_read_67 : decode cX3_read 67 = .ok (.goto (-48), 3) := by decide +kernel
theorem dX3_read_70 : decode cX3_read 70 = .ok (.iconst (-1), 1) := by decide +kernel
theorem dX3_read_71 : decode cX3_read 71 = .ok (.aload_n 0, 1) := by decide +kernel
theorem dX3_read_72 : decode cX3_read 72 = .ok (.getfield 43, 3) := by decide +kernel
theorem dX3_read_75 : decode cX3_read 75 = .ok (.isub, 1) := by decide +kernel
theorem dX3_read_76 : decode cX3_read 76 = .ok (.ireturn, 1) := by decide +kernel
theorem dX3_readItem_0 : decode cX3_readItem 0 = .ok (.aload_n 0, 1) := by decide +kernel
theorem dX3_readItem_1 : decode cX3_readItem 1 = .ok (.invokevirtual 46, 3) := by decide +kernel
theorem dX3_readItem_4 : decode cX3_readItem 4 = .ok (.istore_n 1, 1) := by decide +kernel
theorem dX3_readItem_5 : decode cX3_readItem 5 = .ok (.iload_n 1, 1) := by decide +kernel
theorem dX3_readItem_6 : decode cX3_readItem 6 = .ok (.ifCond .lt 9, 3) := by decide +kernel
theorem dX3_readItem_9 : decode cX3_readItem 9 = .ok (.aload_n 0, 1) := by decide +kernel
theorem dX3_readItem_10 : decode cX3_readItem 10 = .ok (.iload_n 1, 1) := by decide +kernel
theorem dX3_readItem_11 : decode cX3_readItem 11 = .ok (.invokevirtual 50, 3) := by decide +kernel
theorem dX3_readItem_14 : decode cX3_readItem 14 = .ok (.ireturn, 1) := by decide +kernel
theorem dX3_readItem_15 : decode cX3_readItem 15 = .ok (.aload_n 0, 1) := by decide +kernel
theorem dX3_readItem_16 : decode cX3_readItem 16 = .ok (.ldc 54, 2) := by decide +kernel
theorem dX3_readItem_18 : decode cX3_readItem 18 = .ok (.invokevirtual 56, 3) := by decide +kernel
theorem dX3_readItem_21 : decode cX3_readItem 21 = .ok (.ifCond .eq 8, 3) := by decide +kernel
theorem dX3_readItem_24 : decode cX3_readItem 24 = .ok (.aload_n 0, 1) := by decide +kernel
theorem dX3_readItem_25 : decode cX3_readItem 25 = .ok (.invokevirtual 60, 3) := by decide +kernel
theorem dX3_readItem_28 : decode cX3_readItem 28 = .ok (.ireturn, 1) := by decide +kernel
theorem dX3_readItem_29 : decode cX3_readItem 29 = .ok (.aload_n 0, 1) := by decide +kernel
theorem dX3_readItem_30 : decode cX3_readItem 30 = .ok (.ldc 63, 2) := by decide +kernel
theorem dX3_readItem_32 : decode cX3_readItem 32 = .ok (.invokevirtual 56, 3) := by decide +kernel
theorem dX3_readItem_35 : decode cX3_readItem 35 = .ok (.ifCond .eq 14, 3) := by decide +kernel
theorem dX3_readItem_38 : decode cX3_readItem 38 = .ok (.aload_n 0, 1) := by decide +kernel
theorem dX3_readItem_39 : decode cX3_readItem 39 = .ok (.invokevirtual 65, 3) := by decide +kernel
theorem dX3_readItem_42 : decode cX3_readItem 42 = .ok (.ifCond .eq 7, 3) := by decide +kernel
theorem dX3_readItem_45 : decode cX3_readItem 45 = .ok (.iconst 1, 1) := by decide +kernel
theorem dX3_readItem_46 : decode cX3_readItem 46 = .ok (.goto 4, 3) := by decide +kernel
theorem dX3_readItem_49 : decode cX3_readItem 49 = .ok (.iconst 0, 1) := by decide +kernel
theorem dX3_readItem_50 : decode cX3_readItem 50 = .ok (.ireturn, 1) := by decide +kernel
theorem dX3_readRoom_0 : decode cX3_readRoom 0 = .ok (.aload_n 0, 1) := by decide +kernel
theorem dX3_readRoom_1 : decode cX3_readRoom 1 = .ok (.getfield 21, 3) := by decide +kernel
theorem dX3_readRoom_4 : decode cX3_readRoom 4 = .ok (.getfield 68, 3) := by decide +kernel
theorem dX3_readRoom_7 : decode cX3_readRoom 7 = .ok (.bipush 8, 2) := by decide +kernel
theorem dX3_readRoom_9 : decode cX3_readRoom 9 = .ok (.if_icmp .lt 5, 3) := by decide +kernel
theorem dX3_readRoom_12 : decode cX3_readRoom 12 = .ok (.iconst 0, 1) := by decide +kernel
theorem dX3_readRoom_13 : decode cX3_readRoom 13 = .ok (.ireturn, 1) := by decide +kernel
theorem dX3_readRoom_14 : decode cX3_readRoom 14 = .ok (.aload_n 0, 1) := by decide +kernel
theorem dX3_readRoom_15 : decode cX3_readRoom 15 = .ok (.getfield 21, 3) := by decide +kernel
theorem dX3_readRoom_18 : decode cX3_readRoom 18 = .ok (.iload_n 1, 1) := by decide +kernel
theorem dX3_readRoom_19 : decode cX3_readRoom 19 = .ok (.invokevirtual 71, 3) := by decide +kernel
theorem dX3_readRoom_22 : decode cX3_readRoom 22 = .ok (.istore_n 2, 1) := by decide +kernel
theorem dX3_readRoom_23 : decode cX3_readRoom 23 = .ok (.aload_n 0, 1) := by decide +kernel
theorem dX3_readRoom_24 : decode cX3_readRoom 24 = .ok (.invokevirtual 33, 3) := by decide +kernel
theorem dX3_readRoom_27 : decode cX3_readRoom 27 = .ok (.iconst 1, 1) := by decide +kernel
theorem dX3_readRoom_28 : decode cX3_readRoom 28 = .ok (.istore_n 3, 1) := by decide +kernel
theorem dX3_readRoom_29 : decode cX3_readRoom 29 = .ok (.iload_n 3, 1) := by decide +kernel
theorem dX3_readRoom_30 : decode cX3_readRoom 30 = .ok (.iconst 4, 1) := by decide +kernel
theorem dX3_readRoom_31 : decode cX3_readRoom 31 = .ok (.if_icmp .gt 35, 3) := by decide +kernel
theorem dX3_readRoom_34 : decode cX3_readRoom 34 = .ok (.aload_n 0, 1) := by decide +kernel
theorem dX3_readRoom_35 : decode cX3_readRoom 35 = .ok (.iload_n 3, 1) := by decide +kernel
theorem dX3_readRoom_36 : decode cX3_readRoom 36 = .ok (.invokestatic 75, 3) := by decide +kernel
theorem dX3_readRoom_39 : decode cX3_readRoom 39 = .ok (.invokevirtual 56, 3) := by decide +kernel
theorem dX3_readRoom_42 : decode cX3_readRoom 42 = .ok (.ifCond .eq 18, 3) := by decide +kernel
theorem dX3_readRoom_45 : decode cX3_readRoom 45 = .ok (.aload_n 0, 1) := by decide +kernel
theorem dX3_readRoom_46 : decode cX3_readRoom 46 = .ok (.invokevirtual 33, 3) := by decide +kernel
theorem dX3_readRoom_49 : decode cX3_readRoom 49 = .ok (.aload_n 0, 1) := by decide +kernel
theorem dX3_readRoom_50 : decode cX3_readRoom 50 = .ok (.iload_n 2, 1) := by decide +kernel
theorem dX3_readRoom_51 : decode cX3_readRoom 51 = .ok (.iload_n 3, 1) := by decide +kernel
theorem dX3_readRoom_52 : decode cX3_readRoom 52 = .ok (.invokevirtual 79, 3) := by decide +kernel
theorem dX3_readRoom_55 : decode cX3_readRoom 55 = .ok (.ifCond .ne 5, 3) := by decide +kernel
theorem dX3_readRoom_58 : decode cX3_readRoom 58 = .ok (.iconst 0, 1) := by decide +kernel
theorem dX3_readRoom_59 : decode cX3_readRoom 59 = .ok (.ireturn, 1) := by decide +kernel
theorem dX3_readRoom_60 : decode cX3_readRoom 60 = .ok (.iinc 3 1, 3) := by decide +kernel
theorem dX3_readRoom_63 : decode cX3_readRoom 63 = .ok (.goto (-34), 3) := by decide +kernel
theorem dX3_readRoom_66 : decode cX3_readRoom 66 = .ok (.aload_n 0, 1) := by decide +kernel
theorem dX3_readRoom_67 : decode cX3_readRoom 67 = .ok (.ldc 83, 2) := by decide +kernel
theorem dX3_readRoom_69 : decode cX3_readRoom 69 = .ok (.invokevirtual 56, 3) := by decide +kernel
theorem dX3_readRoom_72 : decode cX3_readRoom 72 = .ok (.ifCond .eq 28, 3) := by decide +kernel
theorem dX3_readRoom_75 : decode cX3_readRoom 75 = .ok (.aload_n 0, 1) := by decide +kernel
theorem dX3_readRoom_76 : decode cX3_readRoom 76 = .ok (.getfield 21, 3) := by decide +kernel
theorem dX3_readRoom_79 : decode cX3_readRoom 79 = .ok (.iload_n 2, 1) := by decide +kernel
theorem dX3_readRoom_80 : decode cX3_readRoom 80 = .ok (.invokevirtual 85, 3) := by decide +kernel
theorem dX3_readRoom_83 : decode cX3_readRoom 83 = .ok (.ifCond .eq 17, 3) := by decide +kernel
theorem dX3_readRoom_86 : decode cX3_readRoom 86 = .ok (.aload_n 0, 1) := by decide +kernel
theorem dX3_readRoom_87 : decode cX3_readRoom 87 = .ok (.getfield 21, 3) := by decide +kernel
theorem dX3_readRoom_90 : decode cX3_readRoom 90 = .ok (.getfield 88, 3) := by decide +kernel
theorem dX3_readRoom_93 : decode cX3_readRoom 93 = .ok (.iload_n 2, 1) := by decide +kernel
theorem dX3_readRoom_94 : decode cX3_readRoom 94 = .ok (.iconst 1, 1) := by decide +kernel
theorem dX3_readRoom_95 : decode cX3_readRoom 95 = .ok (.iastore, 1) := by decide +kernel
theorem dX3_readRoom_96 : decode cX3_readRoom 96 = .ok (.aload_n 0, 1) := by decide +kernel
theorem dX3_readRoom_97 : decode cX3_readRoom 97 = .ok (.invokevirtual 33, 3) := by decide +kernel
theorem dX3_readRoom_100 : decode cX3_readRoom 100 = .ok (.iconst 1, 1) := by decide +kernel
theorem dX3_readRoom_101 : decode cX3_readRoom 101 = .ok (.ireturn, 1) := by decide +kernel
theorem dX3_readValue_0 : decode cX3_readValue 0 = .ok (.aload_n 0, 1) := by decide +kernel
theorem dX3_readValue_1 : decode cX3_readValue 1 = .ok (.getfield 21, 3) := by decide +kernel
theorem dX3_readValue_4 : decode cX3_readValue 4 = .ok (.iload_n 2, 1) := by decide +kernel
theorem dX3_readValue_5 : decode cX3_readValue 5 = .ok (.invokevirtual 91, 3) := by decide +kernel
theorem dX3_readValue_8 : decode cX3_readValue 8 = .ok (.astore_n 3, 1) := by decide +kernel
theorem dX3_readValue_9 : decode cX3_readValue 9 = .ok (.aload_n 0, 1) := by decide +kernel
theorem dX3_readValue_10 : decode cX3_readValue 10 = .ok (.getfield 40, 3) := by decide +kernel
theorem dX3_readValue_13 : decode cX3_readValue 13 = .ok (.iconst 2, 1) := by decide +kernel
theorem dX3_readValue_14 : decode cX3_readValue 14 = .ok (.if_icmp .ne 23, 3) := by decide +kernel
theorem dX3_readValue_17 : decode cX3_readValue 17 = .ok (.aload_n 3, 1) := by decide +kernel
theorem dX3_readValue_18 : decode cX3_readValue 18 = .ok (.ifnull 19, 3) := by decide +kernel
theorem dX3_readValue_21 : decode cX3_readValue 21 = .ok (.aload_n 0, 1) := by decide +kernel
theorem dX3_readValue_22 : decode cX3_readValue 22 = .ok (.getfield 21, 3) := by decide +kernel
theorem dX3_readValue_25 : decode cX3_readValue 25 = .ok (.iload_n 1, 1) := by decide +kernel
theorem dX3_readValue_26 : decode cX3_readValue 26 = .ok (.iload_n 2, 1) := by decide +kernel
theorem dX3_readValue_27 : decode cX3_readValue 27 = .ok (.aload_n 0, 1) := by decide +kernel
theorem dX3_readValue_28 : decode cX3_readValue 28 = .ok (.getfield 95, 3) := by decide +kernel
theorem dX3_readValue_31 : decode cX3_readValue 31 = .ok (.invokevirtual 98, 3) := by decide +kernel
theorem dX3_readValue_34 : decode cX3_readValue 34 = .ok (.ifCond .ne 5, 3) := by decide +kernel
theorem dX3_readValue_37 : decode cX3_readValue 37 = .ok (.iconst 0, 1) := by decide +kernel
theorem dX3_readValue_38 : decode cX3_readValue 38 = .ok (.ireturn, 1) := by decide +kernel
theorem dX3_readValue_39 : decode cX3_readValue 39 = .ok (.aload_n 3, 1) := by decide +kernel
theorem dX3_readValue_40 : decode cX3_readValue 40 = .ok (.iload_n 1, 1) := by decide +kernel
theorem dX3_readValue_41 : decode cX3_readValue 41 = .ok (.aload_n 0, 1) := by decide +kernel
theorem dX3_readValue_42 : decode cX3_readValue 42 = .ok (.getfield 95, 3) := by decide +kernel
theorem dX3_readValue_45 : decode cX3_readValue 45 = .ok (.iastore, 1) := by decide +kernel
theorem dX3_readValue_46 : decode cX3_readValue 46 = .ok (.aload_n 0, 1) := by decide +kernel
theorem dX3_readValue_47 : decode cX3_readValue 47 = .ok (.invokevirtual 33, 3) := by decide +kernel
theorem dX3_readValue_50 : decode cX3_readValue 50 = .ok (.iconst 1, 1) := by decide +kernel
theorem dX3_readValue_51 : decode cX3_readValue 51 = .ok (.ireturn, 1) := by decide +kernel
theorem dX3_readOut_0 : decode cX3_readOut 0 = .ok (.aload_n 0, 1) := by decide +kernel
theorem dX3_readOut_1 : decode cX3_readOut 1 = .ok (.invokevirtual 33, 3) := by decide +kernel
theorem dX3_readOut_4 : decode cX3_readOut 4 = .ok (.aload_n 0, 1) := by decide +kernel
theorem dX3_readOut_5 : decode cX3_readOut 5 = .ok (.getfield 40, 3) := by decide +kernel
theorem dX3_readOut_8 : decode cX3_readOut 8 = .ok (.iconst 2, 1) := by decide +kernel
theorem dX3_readOut_9 : decode cX3_readOut 9 = .ok (.if_icmp .ne 12, 3) := by decide +kernel
theorem dX3_readOut_12 : decode cX3_readOut 12 = .ok (.aload_n 0, 1) := by decide +kernel
theorem dX3_readOut_13 : decode cX3_readOut 13 = .ok (.getfield 95, 3) := by decide +kernel
theorem dX3_readOut_16 : decode cX3_readOut 16 = .ok (.bipush 100, 2) := by decide +kernel
theorem dX3_readOut_18 : decode cX3_readOut 18 = .ok (.if_icmp .le 5, 3) := by decide +kernel
theorem dX3_readOut_21 : decode cX3_readOut 21 = .ok (.iconst 0, 1) := by decide +kernel
theorem dX3_readOut_22 : decode cX3_readOut 22 = .ok (.ireturn, 1) := by decide +kernel
theorem dX3_readOut_23 : decode cX3_readOut 23 = .ok (.aload_n 0, 1) := by decide +kernel
theorem dX3_readOut_24 : decode cX3_readOut 24 = .ok (.getfield 21, 3) := by decide +kernel
theorem dX3_readOut_27 : decode cX3_readOut 27 = .ok (.aload_n 0, 1) := by decide +kernel
theorem dX3_readOut_28 : decode cX3_readOut 28 = .ok (.getfield 95, 3) := by decide +kernel
theorem dX3_readOut_31 : decode cX3_readOut 31 = .ok (.putfield 102, 3) := by decide +kernel
theorem dX3_readOut_34 : decode cX3_readOut 34 = .ok (.aload_n 0, 1) := by decide +kernel
theorem dX3_readOut_35 : decode cX3_readOut 35 = .ok (.invokevirtual 33, 3) := by decide +kernel
theorem dX3_readOut_38 : decode cX3_readOut 38 = .ok (.iconst 1, 1) := by decide +kernel
theorem dX3_readOut_39 : decode cX3_readOut 39 = .ok (.ireturn, 1) := by decide +kernel
theorem dX3_readDamper_0 : decode cX3_readDamper 0 = .ok (.aload_n 0, 1) := by decide +kernel
theorem dX3_readDamper_1 : decode cX3_readDamper 1 = .ok (.invokevirtual 33, 3) := by decide +kernel
theorem dX3_readDamper_4 : decode cX3_readDamper 4 = .ok (.aload_n 0, 1) := by decide +kernel
theorem dX3_readDamper_5 : decode cX3_readDamper 5 = .ok (.getfield 40, 3) := by decide +kernel
theorem dX3_readDamper_8 : decode cX3_readDamper 8 = .ok (.iconst 2, 1) := by decide +kernel
theorem dX3_readDamper_9 : decode cX3_readDamper 9 = .ok (.if_icmp .ne 17, 3) := by decide +kernel
theorem dX3_readDamper_12 : decode cX3_readDamper 12 = .ok (.aload_n 0, 1) := by decide +kernel
theorem dX3_readDamper_13 : decode cX3_readDamper 13 = .ok (.getfield 21, 3) := by decide +kernel
theorem dX3_readDamper_16 : decode cX3_readDamper 16 = .ok (.aload_n 0, 1) := by decide +kernel
theorem dX3_readDamper_17 : decode cX3_readDamper 17 = .ok (.getfield 95, 3) := by decide +kernel
theorem dX3_readDamper_20 : decode cX3_readDamper 20 = .ok (.invokevirtual 85, 3) := by decide +kernel
theorem dX3_readDamper_23 : decode cX3_readDamper 23 = .ok (.ifCond .ne 5, 3) := by decide +kernel
theorem dX3_readDamper_26 : decode cX3_readDamper 26 = .ok (.iconst 0, 1) := by decide +kernel
theorem dX3_readDamper_27 : decode cX3_readDamper 27 = .ok (.ireturn, 1) := by decide +kernel
theorem dX3_readDamper_28 : decode cX3_readDamper 28 = .ok (.aload_n 0, 1) := by decide +kernel
theorem dX3_readDamper_29 : decode cX3_readDamper 29 = .ok (.getfield 95, 3) := by decide +kernel
theorem dX3_readDamper_32 : decode cX3_readDamper 32 = .ok (.istore_n 1, 1) := by decide +kernel
theorem dX3_readDamper_33 : decode cX3_readDamper 33 = .ok (.aload_n 0, 1) := by decide +kernel
theorem dX3_readDamper_34 : decode cX3_readDamper 34 = .ok (.invokevirtual 33, 3) := by decide +kernel
theorem dX3_readDamper_37 : decode cX3_readDamper 37 = .ok (.aload_n 0, 1) := by decide +kernel
theorem dX3_readDamper_38 : decode cX3_readDamper 38 = .ok (.iload_n 1, 1) := by decide +kernel
theorem dX3_readDamper_39 : decode cX3_readDamper 39 = .ok (.bipush 6, 2) := by decide +kernel
theorem dX3_readDamper_41 : decode cX3_readDamper 41 = .ok (.invokevirtual 79, 3) := by decide +kernel
theorem dX3_readDamper_44 : decode cX3_readDamper 44 = .ok (.ireturn, 1) := by decide +kernel
theorem dX3_kindTold_0 : decode cX3_kindTold 0 = .ok (.iconst 0, 1) := by decide +kernel
theorem dX3_kindTold_1 : decode cX3_kindTold 1 = .ok (.istore_n 1, 1) := by decide +kernel
theorem dX3_kindTold_2 : decode cX3_kindTold 2 = .ok (.iload_n 1, 1) := by decide +kernel
theorem dX3_kindTold_3 : decode cX3_kindTold 3 = .ok (.bipush 6, 2) := by decide +kernel
theorem dX3_kindTold_5 : decode cX3_kindTold 5 = .ok (.if_icmp .gt 22, 3) := by decide +kernel
theorem dX3_kindTold_8 : decode cX3_kindTold 8 = .ok (.aload_n 0, 1) := by decide +kernel
theorem dX3_kindTold_9 : decode cX3_kindTold 9 = .ok (.iload_n 1, 1) := by decide +kernel
theorem dX3_kindTold_10 : decode cX3_kindTold 10 = .ok (.invokestatic 104, 3) := by decide +kernel
theorem dX3_kindTold_13 : decode cX3_kindTold 13 = .ok (.invokevirtual 56, 3) := by decide +kernel
theorem dX3_kindTold_16 : decode cX3_kindTold 16 = .ok (.ifCond .eq 5, 3) := by decide +kernel
theorem dX3_kindTold_19 : decode cX3_kindTold 19 = .ok (.iload_n 1, 1) := by decide +kernel
theorem dX3_kindTold_20 : decode cX3_kindTold 20 = .ok (.ireturn, 1) := by decide +kernel
theorem dX3_kindTold_21 : decode cX3_kindTold 21 = .ok (.iinc 1 1, 3) := by decide +kernel
theorem dX3_kindTold_24 : decode cX3_kindTold 24 = .ok (.goto (-22), 3) := by decide +kernel
theorem dX3_kindTold_27 : decode cX3_kindTold 27 = .ok (.iconst (-1), 1) := by decide +kernel
theorem dX3_kindTold_28 : decode cX3_kindTold 28 = .ok (.ireturn, 1) := by decide +kernel
theorem dX3_wordOfKind_0 : decode cX3_wordOfKind 0 = .ok (.iload_n 0, 1) := by decide +kernel
theorem dX3_wordOfKind_1 : decode cX3_wordOfKind 1 = .ok (.tableswitch 57 0 5 #[39, 42, 45, 48, 51, 54], 39) := by decide +kernel
theorem dX3_wordOfKind_40 : decode cX3_wordOfKind 40 = .ok (.ldc 107, 2) := by decide +kernel
theorem dX3_wordOfKind_42 : decode cX3_wordOfKind 42 = .ok (.areturn, 1) := by decide +kernel
theorem dX3_wordOfKind_43 : decode cX3_wordOfKind 43 = .ok (.ldc 109, 2) := by decide +kernel
theorem dX3_wordOfKind_45 : decode cX3_wordOfKind 45 = .ok (.areturn, 1) := by decide +kernel
theorem dX3_wordOfKind_46 : decode cX3_wordOfKind 46 = .ok (.ldc 111, 2) := by decide +kernel
theorem dX3_wordOfKind_48 : decode cX3_wordOfKind 48 = .ok (.areturn, 1) := by decide +kernel
theorem dX3_wordOfKind_49 : decode cX3_wordOfKind 49 = .ok (.ldc 113, 2) := by decide +kernel
theorem dX3_wordOfKind_51 : decode cX3_wordOfKind 51 = .ok (.areturn, 1) := by decide +kernel
theorem dX3_wordOfKind_52 : decode cX3_wordOfKind 52 = .ok (.ldc 115, 2) := by decide +kernel
theorem dX3_wordOfKind_54 : decode cX3_wordOfKind 54 = .ok (.areturn, 1) := by decide +kernel
theorem dX3_wordOfKind_55 : decode cX3_wordOfKind 55 = .ok (.ldc 117, 2) := by decide +kernel
theorem dX3_wordOfKind_57 : decode cX3_wordOfKind 57 = .ok (.areturn, 1) := by decide +kernel
theorem dX3_wordOfKind_58 : decode cX3_wordOfKind 58 = .ok (.ldc 119, 2) := by decide +kernel
theorem dX3_wordOfKind_60 : decode cX3_wordOfKind 60 = .ok (.areturn, 1) := by decide +kernel
theorem dX3_wordOfPart_0 : decode cX3_wordOfPart 0 = .ok (.iload_n 0, 1) := by decide +kernel
theorem dX3_wordOfPart_1 : decode cX3_wordOfPart 1 = .ok (.tableswitch 36 1 3 #[27, 30, 33], 27) := by decide +kernel
theorem dX3_wordOfPart_28 : decode cX3_wordOfPart 28 = .ok (.ldc 121, 2) := by decide +kernel
theorem dX3_wordOfPart_30 : decode cX3_wordOfPart 30 = .ok (.areturn, 1) := by decide +kernel
theorem dX3_wordOfPart_31 : decode cX3_wordOfPart 31 = .ok (.ldc 123, 2) := by decide +kernel
theorem dX3_wordOfPart_33 : decode cX3_wordOfPart 33 = .ok (.areturn, 1) := by decide +kernel
theorem dX3_wordOfPart_34 : decode cX3_wordOfPart 34 = .ok (.ldc 125, 2) := by decide +kernel
theorem dX3_wordOfPart_36 : decode cX3_wordOfPart 36 = .ok (.areturn, 1) := by decide +kernel
theorem dX3_wordOfPart_37 : decode cX3_wordOfPart 37 = .ok (.ldc 127, 2) := by decide +kernel
theorem dX3_wordOfPart_39 : decode cX3_wordOfPart 39 = .ok (.areturn, 1) := by decide +kernel
theorem dX3_isWord_0 : decode cX3_isWord 0 = .ok (.aload_n 0, 1) := by decide +kernel
theorem dX3_isWord_1 : decode cX3_isWord 1 = .ok (.getfield 40, 3) := by decide +kernel
theorem dX3_isWord_4 : decode cX3_isWord 4 = .ok (.iconst 1, 1) := by decide +kernel
theorem dX3_isWord_5 : decode cX3_isWord 5 = .ok (.if_icmp .ne 19, 3) := by decide +kernel
theorem dX3_isWord_8 : decode cX3_isWord 8 = .ok (.aload_n 0, 1) := by decide +kernel
theorem dX3_isWord_9 : decode cX3_isWord 9 = .ok (.getfield 29, 3) := by decide +kernel
theorem dX3_isWord_12 : decode cX3_isWord 12 = .ok (.aload_n 0, 1) := by decide +kernel
theorem dX3_isWord_13 : decode cX3_isWord 13 = .ok (.getfield 43, 3) := by decide +kernel
theorem dX3_isWord_16 : decode cX3_isWord 16 = .ok (.isub, 1) := by decide +kernel
theorem dX3_isWord_17 : decode cX3_isWord 17 = .ok (.aload_n 1, 1) := by decide +kernel
theorem dX3_isWord_18 : decode cX3_isWord 18 = .ok (.invokevirtual 129, 3) := by decide +kernel
theorem dX3_isWord_21 : decode cX3_isWord 21 = .ok (.if_icmp .eq 5, 3) := by decide +kernel
theorem dX3_isWord_24 : decode cX3_isWord 24 = .ok (.iconst 0, 1) := by decide +kernel
theorem dX3_isWord_25 : decode cX3_isWord 25 = .ok (.ireturn, 1) := by decide +kernel
theorem dX3_isWord_26 : decode cX3_isWord 26 = .ok (.iconst 0, 1) := by decide +kernel
theorem dX3_isWord_27 : decode cX3_isWord 27 = .ok (.istore_n 2, 1) := by decide +kernel
theorem dX3_isWord_28 : decode cX3_isWord 28 = .ok (.iload_n 2, 1) := by decide +kernel
theorem dX3_isWord_29 : decode cX3_isWord 29 = .ok (.aload_n 1, 1) := by decide +kernel
theorem dX3_isWord_30 : decode cX3_isWord 30 = .ok (.invokevirtual 129, 3) := by decide +kernel
theorem dX3_isWord_33 : decode cX3_isWord 33 = .ok (.if_icmp .ge 32, 3) := by decide +kernel
theorem dX3_isWord_36 : decode cX3_isWord 36 = .ok (.aload_n 0, 1) := by decide +kernel
theorem dX3_isWord_37 : decode cX3_isWord 37 = .ok (.getfield 12, 3) := by decide +kernel
theorem dX3_isWord_40 : decode cX3_isWord 40 = .ok (.aload_n 0, 1) := by decide +kernel
theorem dX3_isWord_41 : decode cX3_isWord 41 = .ok (.getfield 43, 3) := by decide +kernel
theorem dX3_isWord_44 : decode cX3_isWord 44 = .ok (.iload_n 2, 1) := by decide +kernel
theorem dX3_isWord_45 : decode cX3_isWord 45 = .ok (.iadd, 1) := by decide +kernel
theorem dX3_isWord_46 : decode cX3_isWord 46 = .ok (.invokevirtual 134, 3) := by decide +kernel
theorem dX3_isWord_49 : decode cX3_isWord 49 = .ok (.aload_n 1, 1) := by decide +kernel
theorem dX3_isWord_50 : decode cX3_isWord 50 = .ok (.iload_n 2, 1) := by decide +kernel
theorem dX3_isWord_51 : decode cX3_isWord 51 = .ok (.invokevirtual 137, 3) := by decide +kernel
theorem dX3_isWord_54 : decode cX3_isWord 54 = .ok (.if_icmp .eq 5, 3) := by decide +kernel
theorem dX3_isWord_57 : decode cX3_isWord 57 = .ok (.iconst 0, 1) := by decide +kernel
theorem dX3_isWord_58 : decode cX3_isWord 58 = .ok (.ireturn, 1) := by decide +kernel
theorem dX3_isWord_59 : decode cX3_isWord 59 = .ok (.iinc 2 1, 3) := by decide +kernel
theorem dX3_isWord_62 : decode cX3_isWord 62 = .ok (.goto (-34), 3) := by decide +kernel
theorem dX3_isWord_65 : decode cX3_isWord 65 = .ok (.iconst 1, 1) := by decide +kernel
theorem dX3_isWord_66 : decode cX3_isWord 66 = .ok (.ireturn, 1) := by decide +kernel
theorem dX3_step_0 : decode cX3_step 0 = .ok (.aload_n 0, 1) := by decide +kernel
theorem dX3_step_1 : decode cX3_step 1 = .ok (.aload_n 0, 1) := by decide +kernel
theorem dX3_step_2 : decode cX3_step 2 = .ok (.getfield 29, 3) := by decide +kernel
theorem dX3_step_5 : decode cX3_step 5 = .ok (.putfield 43, 3) := by decide +kernel
theorem dX3_step_8 : decode cX3_step 8 = .ok (.aload_n 0, 1) := by decide +kernel
theorem dX3_step_9 : decode cX3_step 9 = .ok (.getfield 43, 3) := by decide +kernel
theorem dX3_step_12 : decode cX3_step 12 = .ok (.aload_n 0, 1) := by decide +kernel
theorem dX3_step_13 : decode cX3_step 13 = .ok (.getfield 12, 3) := by decide +kernel
theorem dX3_step_16 : decode cX3_step 16 = .ok (.getfield 141, 3) := by decide +kernel
theorem dX3_step_19 : decode cX3_step 19 = .ok (.if_icmp .ge 32, 3) := by decide +kernel
theorem dX3_step_22 : decode cX3_step 22 = .ok (.aload_n 0, 1) := by decide +kernel
theorem dX3_step_23 : decode cX3_step 23 = .ok (.getfield 12, 3) := by decide +kernel
theorem dX3_step_26 : decode cX3_step 26 = .ok (.aload_n 0, 1) := by decide +kernel
theorem dX3_step_27 : decode cX3_step 27 = .ok (.getfield 43, 3) := by decide +kernel
theorem dX3_step_30 : decode cX3_step 30 = .ok (.invokevirtual 134, 3) := by decide +kernel
theorem dX3_step_33 : decode cX3_step 33 = .ok (.bipush 32, 2) := by decide +kernel
theorem dX3_step_35 : decode cX3_step 35 = .ok (.if_icmp .ne 16, 3) := by decide +kernel
theorem dX3_step_38 : decode cX3_step 38 = .ok (.aload_n 0, 1) := by decide +kernel
theorem dX3_step_39 : decode cX3_step 39 = .ok (.dup, 1) := by decide +kernel
theorem dX3_step_40 : decode cX3_step 40 = .ok (.getfield 43, 3) := by decide +kernel
theorem dX3_step_43 : decode cX3_step 43 = .ok (.iconst 1, 1) := by decide +kernel
theorem dX3_step_44 : decode cX3_step 44 = .ok (.iadd, 1) := by decide +kernel
theorem dX3_step_45 : decode cX3_step 45 = .ok (.putfield 43, 3) := by decide +kernel
theorem dX3_step_48 : decode cX3_step 48 = .ok (.goto (-40), 3) := by decide +kernel
theorem dX3_step_51 : decode cX3_step 51 = .ok (.aload_n 0, 1) := by decide +kernel
theorem dX3_step_52 : decode cX3_step 52 = .ok (.aload_n 0, 1) := by decide +kernel
theorem dX3_step_53 : decode cX3_step 53 = .ok (.getfield 12, 3) := by decide +kernel
theorem dX3_step_56 : decode cX3_step 56 = .ok (.aload_n 0, 1) := by decide +kernel
theorem dX3_step_57 : decode cX3_step 57 = .ok (.getfield 43, 3) := by decide +kernel
theorem dX3_step_60 : decode cX3_step 60 = .ok (.invokevirtual 134, 3) := by decide +kernel
theorem dX3_step_63 : decode cX3_step 63 = .ok (.invokestatic 143, 3) := by decide +kernel
theorem dX3_step_66 : decode cX3_step 66 = .ok (.putfield 40, 3) := by decide +kernel
theorem dX3_step_69 : decode cX3_step 69 = .ok (.aload_n 0, 1) := by decide +kernel
theorem dX3_step_70 : decode cX3_step 70 = .ok (.aload_n 0, 1) := by decide +kernel
theorem dX3_step_71 : decode cX3_step 71 = .ok (.getfield 43, 3) := by decide +kernel
theorem dX3_step_74 : decode cX3_step 74 = .ok (.putfield 29, 3) := by decide +kernel
theorem dX3_step_77 : decode cX3_step 77 = .ok (.aload_n 0, 1) := by decide +kernel
theorem dX3_step_78 : decode cX3_step 78 = .ok (.iconst 0, 1) := by decide +kernel
theorem dX3_step_79 : decode cX3_step 79 = .ok (.putfield 95, 3) := by decide +kernel
theorem dX3_step_82 : decode cX3_step 82 = .ok (.aload_n 0, 1) := by decide +kernel
theorem dX3_step_83 : decode cX3_step 83 = .ok (.getfield 29, 3) := by decide +kernel
theorem dX3_step_86 : decode cX3_step 86 = .ok (.aload_n 0, 1) := by decide +kernel
theorem dX3_step_87 : decode cX3_step 87 = .ok (.getfield 12, 3) := by decide +kernel
theorem dX3_step_90 : decode cX3_step 90 = .ok (.getfield 141, 3) := by decide +kernel
theorem dX3_step_93 : decode cX3_step 93 = .ok (.if_icmp .ge 96, 3) := by decide +kernel
theorem dX3_step_96 : decode cX3_step 96 = .ok (.aload_n 0, 1) := by decide +kernel
theorem dX3_step_97 : decode cX3_step 97 = .ok (.getfield 12, 3) := by decide +kernel
theorem dX3_step_100 : decode cX3_step 100 = .ok (.aload_n 0, 1) := by decide +kernel
theorem dX3_step_101 : decode cX3_step 101 = .ok (.getfield 29, 3) := by decide +kernel
theorem dX3_step_104 : decode cX3_step 104 = .ok (.invokevirtual 134, 3) := by decide +kernel
theorem dX3_step_107 : decode cX3_step 107 = .ok (.invokestatic 143, 3) := by decide +kernel
theorem dX3_step_110 : decode cX3_step 110 = .ok (.aload_n 0, 1) := by decide +kernel
theorem dX3_step_111 : decode cX3_step 111 = .ok (.getfield 40, 3) := by decide +kernel
theorem dX3_step_114 : decode cX3_step 114 = .ok (.if_icmp .ne 75, 3) := by decide +kernel
theorem dX3_step_117 : decode cX3_step 117 = .ok (.aload_n 0, 1) := by decide +kernel
theorem dX3_step_118 : decode cX3_step 118 = .ok (.getfield 40, 3) := by decide +kernel
theorem dX3_step_121 : decode cX3_step 121 = .ok (.iconst 3, 1) := by decide +kernel
theorem dX3_step_122 : decode cX3_step 122 = .ok (.if_icmp .ne 14, 3) := by decide +kernel
theorem dX3_step_125 : decode cX3_step 125 = .ok (.aload_n 0, 1) := by decide +kernel
theorem dX3_step_126 : decode cX3_step 126 = .ok (.getfield 29, 3) := by decide +kernel
theorem dX3_step_129 : decode cX3_step 129 = .ok (.aload_n 0, 1) := by decide +kernel
theorem dX3_step_130 : decode cX3_step 130 = .ok (.getfield 43, 3) := by decide +kernel
theorem dX3_step_133 : decode cX3_step 133 = .ok (.if_icmp .ne 56, 3) := by decide +kernel
theorem dX3_step_136 : decode cX3_step 136 = .ok (.aload_n 0, 1) := by decide +kernel
theorem dX3_step_137 : decode cX3_step 137 = .ok (.getfield 40, 3) := by decide +kernel
theorem dX3_step_140 : decode cX3_step 140 = .ok (.iconst 2, 1) := by decide +kernel
theorem dX3_step_141 : decode cX3_step 141 = .ok (.if_icmp .ne 35, 3) := by decide +kernel
theorem dX3_step_144 : decode cX3_step 144 = .ok (.aload_n 0, 1) := by decide +kernel
theorem dX3_step_145 : decode cX3_step 145 = .ok (.aload_n 0, 1) := by decide +kernel
theorem dX3_step_146 : decode cX3_step 146 = .ok (.getfield 95, 3) := by decide +kernel
theorem dX3_step_149 : decode cX3_step 149 = .ok (.bipush 10, 2) := by decide +kernel
theorem dX3_step_151 : decode cX3_step 151 = .ok (.imul, 1) := by decide +kernel
theorem dX3_step_152 : decode cX3_step 152 = .ok (.aload_n 0, 1) := by decide +kernel
theorem dX3_step_153 : decode cX3_step 153 = .ok (.getfield 12, 3) := by decide +kernel
theorem dX3_step_156 : decode cX3_step 156 = .ok (.aload_n 0, 1) := by decide +kernel
theorem dX3_step_157 : decode cX3_step 157 = .ok (.getfield 29, 3) := by decide +kernel
theorem dX3_step_160 : decode cX3_step 160 = .ok (.invokevirtual 134, 3) := by decide +kernel
theorem dX3_step_163 : decode cX3_step 163 = .ok (.iadd, 1) := by decide +kernel
theorem dX3_step_164 : decode cX3_step 164 = .ok (.bipush 48, 2) := by decide +kernel
theorem dX3_step_166 : decode cX3_step 166 = .ok (.isub, 1) := by decide +kernel
theorem dX3_step_167 : decode cX3_step 167 = .ok (.sipush 10000, 3) := by decide +kernel
theorem dX3_step_170 : decode cX3_step 170 = .ok (.invokestatic 146, 3) := by decide +kernel
theorem dX3_step_173 : decode cX3_step 173 = .ok (.putfield 95, 3) := by decide +kernel
theorem dX3_step_176 : decode cX3_step 176 = .ok (.aload_n 0, 1) := by decide +kernel
theorem dX3_step_177 : decode cX3_step 177 = .ok (.dup, 1) := by decide +kernel
theorem dX3_step_178 : decode cX3_step 178 = .ok (.getfield 29, 3) := by decide +kernel
theorem dX3_step_181 : decode cX3_step 181 = .ok (.iconst 1, 1) := by decide +kernel
theorem dX3_step_182 : decode cX3_step 182 = .ok (.iadd, 1) := by decide +kernel
theorem dX3_step_183 : decode cX3_step 183 = .ok (.putfield 29, 3) := by decide +kernel
theorem dX3_step_186 : decode cX3_step 186 = .ok (.goto (-104), 3) := by decide +kernel
theorem dX3_step_189 : decode cX3_step 189 = .ok (.return_, 1) := by decide +kernel
theorem dX3_tokenBegunBy_0 : decode cX3_tokenBegunBy 0 = .ok (.iload_n 0, 1) := by decide +kernel
theorem dX3_tokenBegunBy_1 : decode cX3_tokenBegunBy 1 = .ok (.ifCond .ge 5, 3) := by decide +kernel
theorem dX3_tokenBegunBy_4 : decode cX3_tokenBegunBy 4 = .ok (.iconst 0, 1) := by decide +kernel
theorem dX3_tokenBegunBy_5 : decode cX3_tokenBegunBy 5 = .ok (.ireturn, 1) := by decide +kernel
theorem dX3_tokenBegunBy_6 : decode cX3_tokenBegunBy 6 = .ok (.iload_n 0, 1) := by decide +kernel
theorem dX3_tokenBegunBy_7 : decode cX3_tokenBegunBy 7 = .ok (.bipush 97, 2) := by decide +kernel
theorem dX3_tokenBegunBy_9 : decode cX3_tokenBegunBy 9 = .ok (.if_icmp .lt 11, 3) := by decide +kernel
theorem dX3_tokenBegunBy_12 : decode cX3_tokenBegunBy 12 = .ok (.iload_n 0, 1) := by decide +kernel
theorem dX3_tokenBegunBy_13 : decode cX3_tokenBegunBy 13 = .ok (.bipush 122, 2) := by decide +kernel
theorem dX3_tokenBegunBy_15 : decode cX3_tokenBegunBy 15 = .ok (.if_icmp .gt 5, 3) := by decide +kernel
theorem dX3_tokenBegunBy_18 : decode cX3_tokenBegunBy 18 = .ok (.iconst 1, 1) := by decide +kernel
theorem dX3_tokenBegunBy_19 : decode cX3_tokenBegunBy 19 = .ok (.ireturn, 1) := by decide +kernel
theorem dX3_tokenBegunBy_20 : decode cX3_tokenBegunBy 20 = .ok (.iload_n 0, 1) := by decide +kernel
theorem dX3_tokenBegunBy_21 : decode cX3_tokenBegunBy 21 = .ok (.bipush 48, 2) := by decide +kernel
theorem dX3_tokenBegunBy_23 : decode cX3_tokenBegunBy 23 = .ok (.if_icmp .lt 11, 3) := by decide +kernel
theorem dX3_tokenBegunBy_26 : decode cX3_tokenBegunBy 26 = .ok (.iload_n 0, 1) := by decide +kernel
theorem dX3_tokenBegunBy_27 : decode cX3_tokenBegunBy 27 = .ok (.bipush 57, 2) := by decide +kernel
theorem dX3_tokenBegunBy_29 : decode cX3_tokenBegunBy 29 = .ok (.if_icmp .gt 5, 3) := by decide +kernel
theorem dX3_tokenBegunBy_32 : decode cX3_tokenBegunBy 32 = .ok (.iconst 2, 1) := by decide +kernel
theorem dX3_tokenBegunBy_33 : decode cX3_tokenBegunBy 33 = .ok (.ireturn, 1) := by decide +kernel
theorem dX3_tokenBegunBy_34 : decode cX3_tokenBegunBy 34 = .ok (.iload_n 0, 1) := by decide +kernel
theorem dX3_tokenBegunBy_35 : decode cX3_tokenBegunBy 35 = .ok (.bipush 59, 2) := by decide +kernel
theorem dX3_tokenBegunBy_37 : decode cX3_tokenBegunBy 37 = .ok (.if_icmp .ne 7, 3) := by decide +kernel
theorem dX3_tokenBegunBy_40 : decode cX3_tokenBegunBy 40 = .ok (.iconst 3, 1) := by decide +kernel
theorem dX3_tokenBegunBy_41 : decode cX3_tokenBegunBy 41 = .ok (.goto 4, 3) := by decide +kernel
theorem dX3_tokenBegunBy_44 : decode cX3_tokenBegunBy 44 = .ok (.iconst 4, 1) := by decide +kernel
theorem dX3_tokenBegunBy_45 : decode cX3_tokenBegunBy 45 = .ok (.ireturn, 1) := by decide +kernel
theorem dX4_init_0 : decode cX4_init 0 = .ok (.aload_n 0, 1) := by decide +kernel
theorem dX4_init_1 : decode cX4_init 1 = .ok (.invokespecial 3, 3) := by decide +kernel
theorem dX4_init_4 : decode cX4_init 4 = .ok (.aload_n 0, 1) := by decide +kernel
theorem dX4_init_5 : decode cX4_init 5 = .ok (.new 9, 3) := by decide +kernel
theorem dX4_init_8 : decode cX4_init 8 = .ok (.dup, 1) := by decide +kernel
theorem dX4_init_9 : decode cX4_init 9 = .ok (.invokespecial 11, 3) := by decide +kernel
theorem dX4_init_12 : decode cX4_init 12 = .ok (.putfield 12, 3) := by decide +kernel
theorem dX4_init_15 : decode cX4_init 15 = .ok (.aload_n 0, 1) := by decide +kernel
theorem dX4_init_16 : decode cX4_init 16 = .ok (.new 9, 3) := by decide +kernel
theorem dX4_init_19 : decode cX4_init 19 = .ok (.dup, 1) := by decide +kernel
theorem dX4_init_20 : decode cX4_init 20 = .ok (.invokespecial 11, 3) := by decide +kernel
theorem dX4_init_23 : decode cX4_init 23 = .ok (.putfield 16, 3) := by decide +kernel
theorem dX4_init_26 : decode cX4_init 26 = .ok (.aload_n 0, 1) := by decide +kernel
theorem dX4_init_27 : decode cX4_init 27 = .ok (.new 9, 3) := by decide +kernel
theorem dX4_init_30 : decode cX4_init 30 = .ok (.dup, 1) := by decide +kernel
theorem dX4_init_31 : decode cX4_init 31 = .ok (.invokespecial 11, 3) := by decide +kernel
theorem dX4_init_34 : decode cX4_init 34 = .ok (.putfield 19, 3) := by decide +kernel
theorem dX4_init_37 : decode cX4_init 37 = .ok (.aload_n 0, 1) := by decide +kernel
theorem dX4_init_38 : decode cX4_init 38 = .ok (.new 9, 3) := by decide +kernel
theorem dX4_init_41 : decode cX4_init 41 = .ok (.dup, 1) := by decide +kernel
theorem dX4_init_42 : decode cX4_init 42 = .ok (.invokespecial 11, 3) := by decide +kernel
theorem dX4_init_45 : decode cX4_init 45 = .ok (.putfield 22, 3) := by decide +kernel
theorem dX4_init_48 : decode cX4_init 48 = .ok (.aload_n 0, 1) := by decide +kernel
theorem dX4_init_49 : decode cX4_init 49 = .ok (.new 25, 3) := by decide +kernel
theorem dX4_init_52 : decode cX4_init 52 = .ok (.dup, 1) := by decide +kernel
theorem dX4_init_53 : decode cX4_init 53 = .ok (.invokespecial 27, 3) := by decide +kernel
theorem dX4_init_56 : decode cX4_init 56 = .ok (.putfield 28, 3) := by decide +kernel
theorem dX4_init_59 : decode cX4_init 59 = .ok (.aload_n 0, 1) := by decide +kernel
theorem dX4_init_60 : decode cX4_init 60 = .ok (.aload_n 0, 1) := by decide +kernel
theorem dX4_init_61 : decode cX4_init 61 = .ok (.getfield 28, 3) := by decide +kernel
theorem dX4_init_64 : decode cX4_init 64 = .ok (.getfield 32, 3) := by decide +kernel
theorem dX4_init_67 : decode cX4_init 67 = .ok (.putfield 36, 3) := by decide +kernel
theorem dX4_init_70 : decode cX4_init 70 = .ok (.aload_n 0, 1) := by decide +kernel
theorem dX4_init_71 : decode cX4_init 71 = .ok (.iconst 4, 1) := by decide +kernel
theorem dX4_init_72 : decode cX4_init 72 = .ok (.anewarray 37, 3) := by decide +kernel
theorem dX4_init_75 : decode cX4_init 75 = .ok (.putfield 39, 3) := by decide +kernel
theorem dX4_init_78 : decode cX4_init 78 = .ok (.aload_n 0, 1) := by decide +kernel
theorem dX4_init_79 : decode cX4_init 79 = .ok (.bipush 7, 2) := by decide +kernel
theorem dX4_init_81 : decode cX4_init 81 = .ok (.newarray .int, 2) := by decide +kernel
theorem dX4_init_83 : decode cX4_init 83 = .ok (.putfield 43, 3) := by decide +kernel
theorem dX4_init_86 : decode cX4_init 86 = .ok (.iconst 0, 1) := by decide +kernel
theorem dX4_init_87 : decode cX4_init 87 = .ok (.istore_n 1, 1) := by decide +kernel
theorem dX4_init_88 : decode cX4_init 88 = .ok (.iload_n 1, 1) := by decide +kernel
theorem dX4_init_89 : decode cX4_init 89 = .ok (.iconst 4, 1) := by decide +kernel
theorem dX4_init_90 : decode cX4_init 90 = .ok (.if_icmp .ge 22, 3) := by decide +kernel
theorem dX4_init_93 : decode cX4_init 93 = .ok (.aload_n 0, 1) := by decide +kernel
theorem dX4_init_94 : decode cX4_init 94 = .ok (.getfield 39, 3) := by decide +kernel
theorem dX4_init_97 : decode cX4_init 97 = .ok (.iload_n 1, 1) := by decide +kernel
theorem dX4_init_98 : decode cX4_init 98 = .ok (.new 37, 3) := by decide +kernel
theorem dX4_init_101 : decode cX4_init 101 = .ok (.dup, 1) := by decide +kernel
theorem dX4_init_102 : decode cX4_init 102 = .ok (.invokespecial 47, 3) := by decide +kernel
theorem dX4_init_105 : decode cX4_init 105 = .ok (.aastore, 1) := by decide +kernel
theorem dX4_init_106 : decode cX4_init 106 = .ok (.iinc 1 1, 3) := by decide +kernel
theorem dX4_init_109 : decode cX4_init 109 = .ok (.goto (-21), 3) := by decide +kernel
theorem dX4_init_112 : decode cX4_init 112 = .ok (.return_, 1) := by decide +kernel
theorem dX4_room_0 : decode cX4_room 0 = .ok (.iload_n 1, 1) := by decide +kernel
theorem dX4_room_1 : decode cX4_room 1 = .ok (.invokestatic 48, 3) := by decide +kernel
theorem dX4_room_4 : decode cX4_room 4 = .ok (.ifCond .ne 10, 3) := by decide +kernel
theorem dX4_room_7 : decode cX4_room 7 = .ok (.aload_n 0, 1) := by decide +kernel
theorem dX4_room_8 : decode cX4_room 8 = .ok (.ldc 52, 2) := by decide +kernel
theorem dX4_room_10 : decode cX4_room 10 = .ok (.invokevirtual 53, 3) := by decide +kernel
theorem dX4_room_13 : decode cX4_room 13 = .ok (.ireturn, 1) := by decide +kernel
theorem dX4_room_14 : decode cX4_room 14 = .ok (.aload_n 0, 1) := by decide +kernel
theorem dX4_room_15 : decode cX4_room 15 = .ok (.getfield 12, 3) := by decide +kernel
theorem dX4_room_18 : decode cX4_room 18 = .ok (.getfield 57, 3) := by decide +kernel
theorem dX4_room_21 : decode cX4_room 21 = .ok (.bipush 8, 2) := by decide +kernel
theorem dX4_room_23 : decode cX4_room 23 = .ok (.if_icmp .lt 10, 3) := by decide +kernel
theorem dX4_room_26 : decode cX4_room 26 = .ok (.aload_n 0, 1) := by decide +kernel
theorem dX4_room_27 : decode cX4_room 27 = .ok (.ldc 61, 2) := by decide +kernel
theorem dX4_room_29 : decode cX4_room 29 = .ok (.invokevirtual 53, 3) := by decide +kernel
theorem dX4_room_32 : decode cX4_room 32 = .ok (.ireturn, 1) := by decide +kernel
theorem dX4_room_33 : decode cX4_room 33 = .ok (.aload_n 0, 1) := by decide +kernel
theorem dX4_room_34 : decode cX4_room 34 = .ok (.getfield 12, 3) := by decide +kernel
theorem dX4_room_37 : decode cX4_room 37 = .ok (.iload_n 1, 1) := by decide +kernel
theorem dX4_room_38 : decode cX4_room 38 = .ok (.invokevirtual 62, 3) := by decide +kernel
theorem dX4_room_41 : decode cX4_room 41 = .ok (.ireturn, 1) := by decide +kernel
theorem dX4_of_0 : decode cX4_of 0 = .ok (.aload_n 0, 1) := by decide +kernel
theorem dX4_of_1 : decode cX4_of 1 = .ok (.getfield 12, 3) := by decide +kernel
theorem dX4_of_4 : decode cX4_of 4 = .ok (.iload_n 1, 1) := by decide +kernel
theorem dX4_of_5 : decode cX4_of 5 = .ok (.invokevirtual 65, 3) := by decide +kernel
theorem dX4_of_8 : decode cX4_of 8 = .ok (.ifCond .ne 10, 3) := by decide +kernel
theorem dX4_of_11 : decode cX4_of 11 = .ok (.aload_n 0, 1) := by decide +kernel
theorem dX4_of_12 : decode cX4_of 12 = .ok (.ldc 52, 2) := by decide +kernel
theorem dX4_of_14 : decode cX4_of 14 = .ok (.invokevirtual 53, 3) := by decide +kernel
theorem dX4_of_17 : decode cX4_of 17 = .ok (.ireturn, 1) := by decide +kernel
theorem dX4_of_18 : decode cX4_of 18 = .ok (.iload_n 2, 1) := by decide +kernel
theorem dX4_of_19 : decode cX4_of 19 = .ok (.bipush 9, 2) := by decide +kernel
theorem dX4_of_21 : decode cX4_of 21 = .ok (.if_icmp .ne 12, 3) := by decide +kernel
theorem dX4_of_24 : decode cX4_of 24 = .ok (.aload_n 0, 1) := by decide +kernel
theorem dX4_of_25 : decode cX4_of 25 = .ok (.getfield 12, 3) := by decide +kernel
theorem dX4_of_28 : decode cX4_of 28 = .ok (.iload_n 1, 1) := by decide +kernel
theorem dX4_of_29 : decode cX4_of 29 = .ok (.invokevirtual 68, 3) := by decide +kernel
theorem dX4_of_32 : decode cX4_of 32 = .ok (.ireturn, 1) := by decide +kernel
theorem dX4_of_33 : decode cX4_of 33 = .ok (.aload_n 0, 1) := by decide +kernel
theorem dX4_of_34 : decode cX4_of 34 = .ok (.getfield 12, 3) := by decide +kernel
theorem dX4_of_37 : decode cX4_of 37 = .ok (.iload_n 2, 1) := by decide +kernel
theorem dX4_of_38 : decode cX4_of 38 = .ok (.invokevirtual 71, 3) := by decide +kernel
theorem dX4_of_41 : decode cX4_of 41 = .ok (.astore_n 3, 1) := by decide +kernel
theorem dX4_of_42 : decode cX4_of 42 = .ok (.aload_n 3, 1) := by decide +kernel
theorem dX4_of_43 : decode cX4_of 43 = .ok (.ifnonnull 12, 3) := by decide +kernel
theorem dX4_of_46 : decode cX4_of 46 = .ok (.aload_n 0, 1) := by decide +kernel
theorem dX4_of_47 : decode cX4_of 47 = .ok (.ldc 52, 2) := by decide +kernel
theorem dX4_of_49 : decode cX4_of 49 = .ok (.invokevirtual 53, 3) := by decide +kernel
theorem dX4_of_52 : decode cX4_of 52 = .ok (.goto 6, 3) := by decide +kernel
theorem dX4_of_55 : decode cX4_of 55 = .ok (.aload_n 3, 1) := by decide +kernel
theorem dX4_of_56 : decode cX4_of 56 = .ok (.iload_n 1, 1) := by decide +kernel
theorem dX4_of_57 : decode cX4_of 57 = .ok (.iaload, 1) := by decide +kernel
theorem dX4_of_58 : decode cX4_of 58 = .ok (.ireturn, 1) := by decide +kernel
theorem dX4_change_0 : decode cX4_change 0 = .ok (.aload_n 0, 1) := by decide +kernel
theorem dX4_change_1 : decode cX4_change 1 = .ok (.getfield 12, 3) := by decide +kernel
theorem dX4_change_4 : decode cX4_change 4 = .ok (.iload_n 2, 1) := by decide +kernel
theorem dX4_change_5 : decode cX4_change 5 = .ok (.invokevirtual 71, 3) := by decide +kernel
theorem dX4_change_8 : decode cX4_change 8 = .ok (.astore 4, 2) := by decide +kernel
theorem dX4_change_10 : decode cX4_change 10 = .ok (.aload 4, 2) := by decide +kernel
theorem dX4_change_12 : decode cX4_change 12 = .ok (.ifnull 16, 3) := by decide +kernel
theorem dX4_change_15 : decode cX4_change 15 = .ok (.aload_n 0, 1) := by decide +kernel
theorem dX4_change_16 : decode cX4_change 16 = .ok (.getfield 12, 3) := by decide +kernel
theorem dX4_change_19 : decode cX4_change 19 = .ok (.iload_n 1, 1) := by decide +kernel
theorem dX4_change_20 : decode cX4_change 20 = .ok (.iload_n 2, 1) := by decide +kernel
theorem dX4_change_21 : decode cX4_change 21 = .ok (.iload_n 3, 1) := by decide +kernel
theorem dX4_change_22 : decode cX4_change 22 = .ok (.invokevirtual 75, 3) := by decide +kernel
theorem dX4_change_25 : decode cX4_change 25 = .ok (.ifCond .ne 10, 3) := by decide +kernel
theorem dX4_change_28 : decode cX4_change 28 = .ok (.aload_n 0, 1) := by decide +kernel
theorem dX4_change_29 : decode cX4_change 29 = .ok (.ldc 52, 2) := by decide +kernel
theorem dX4_change_31 : decode cX4_change 31 = .ok (.invokevirtual 53, 3) := by decide +kernel
theorem dX4_change_34 : decode cX4_change 34 = .ok (.ireturn, 1) := by decide +kernel
theorem dX4_change_35 : decode cX4_change 35 = .ok (.aload 4, 2) := by decide +kernel
theorem dX4_change_37 : decode cX4_change 37 = .ok (.iload_n 1, 1) := by decide +kernel
theorem dX4_change_38 : decode cX4_change 38 = .ok (.iaload, 1) := by decide +kernel
theorem dX4_change_39 : decode cX4_change 39 = .ok (.istore 5, 2) := by decide +kernel
theorem dX4_change_41 : decode cX4_change 41 = .ok (.aload 4, 2) := by decide +kernel
theorem dX4_change_43 : decode cX4_change 43 = .ok (.iload_n 1, 1) := by decide +kernel
theorem dX4_change_44 : decode cX4_change 44 = .ok (.iload_n 3, 1) := by decide +kernel
theorem dX4_change_45 : decode cX4_change 45 = .ok (.iastore, 1) := by decide +kernel
theorem dX4_change_46 : decode cX4_change 46 = .ok (.iload 5, 2) := by decide +kernel
theorem dX4_change_48 : decode cX4_change 48 = .ok (.ireturn, 1) := by decide +kernel
theorem dX4_out_0 : decode cX4_out 0 = .ok (.iload_n 1, 1) := by decide +kernel
theorem dX4_out_1 : decode cX4_out 1 = .ok (.ifCond .lt 9, 3) := by decide +kernel
theorem dX4_out_4 : decode cX4_out 4 = .ok (.iload_n 1, 1) := by decide +kernel
theorem dX4_out_5 : decode cX4_out 5 = .ok (.bipush 100, 2) := by decide +kernel
theorem dX4_out_7 : decode cX4_out 7 = .ok (.if_icmp .le 10, 3) := by decide +kernel
theorem dX4_out_10 : decode cX4_out 10 = .ok (.aload_n 0, 1) := by decide +kernel
theorem dX4_out_11 : decode cX4_out 11 = .ok (.ldc 52, 2) := by decide +kernel
theorem dX4_out_13 : decode cX4_out 13 = .ok (.invokevirtual 53, 3) := by decide +kernel
theorem dX4_out_16 : decode cX4_out 16 = .ok (.ireturn, 1) := by decide +kernel
theorem dX4_out_17 : decode cX4_out 17 = .ok (.aload_n 0, 1) := by decide +kernel
theorem dX4_out_18 : decode cX4_out 18 = .ok (.getfield 12, 3) := by decide +kernel
theorem dX4_out_21 : decode cX4_out 21 = .ok (.getfield 79, 3) := by decide +kernel
theorem dX4_out_24 : decode cX4_out 24 = .ok (.istore_n 2, 1) := by decide +kernel
theorem dX4_out_25 : decode cX4_out 25 = .ok (.aload_n 0, 1) := by decide +kernel
theorem dX4_out_26 : decode cX4_out 26 = .ok (.getfield 12, 3) := by decide +kernel
theorem dX4_out_29 : decode cX4_out 29 = .ok (.iload_n 1, 1) := by decide +kernel
theorem dX4_out_30 : decode cX4_out 30 = .ok (.putfield 79, 3) := by decide +kernel
theorem dX4_out_33 : decode cX4_out 33 = .ok (.iload_n 2, 1) := by decide +kernel
theorem dX4_out_34 : decode cX4_out 34 = .ok (.ireturn, 1) := by decide +kernel
theorem dX4_heaters_0 : decode cX4_heaters 0 = .ok (.aload_n 0, 1) := by decide +kernel
theorem dX4_heaters_1 : decode cX4_heaters 1 = .ok (.getfield 12, 3) := by decide +kernel
theorem dX4_heaters_4 : decode cX4_heaters 4 = .ok (.iload_n 1, 1) := by decide +kernel
theorem dX4_heaters_5 : decode cX4_heaters 5 = .ok (.invokevirtual 65, 3) := by decide +kernel
theorem dX4_heaters_8 : decode cX4_heaters 8 = .ok (.ifCond .eq 14, 3) := by decide +kernel
theorem dX4_heaters_11 : decode cX4_heaters 11 = .ok (.aload_n 0, 1) := by decide +kernel
theorem dX4_heaters_12 : decode cX4_heaters 12 = .ok (.getfield 12, 3) := by decide +kernel
theorem dX4_heaters_15 : decode cX4_heaters 15 = .ok (.iload_n 1, 1) := by decide +kernel
theorem dX4_heaters_16 : decode cX4_heaters 16 = .ok (.invokevirtual 82, 3) := by decide +kernel
theorem dX4_heaters_19 : decode cX4_heaters 19 = .ok (.goto 9, 3) := by decide +kernel
theorem dX4_heaters_22 : decode cX4_heaters 22 = .ok (.aload_n 0, 1) := by decide +kernel
theorem dX4_heaters_23 : decode cX4_heaters 23 = .ok (.ldc 52, 2) := by decide +kernel
theorem dX4_heaters_25 : decode cX4_heaters 25 = .ok (.invokevirtual 53, 3) := by decide +kernel
theorem dX4_heaters_28 : decode cX4_heaters 28 = .ok (.ireturn, 1) := by decide +kernel
theorem dX4_reach_0 : decode cX4_reach 0 = .ok (.aload_n 0, 1) := by decide +kernel
theorem dX4_reach_1 : decode cX4_reach 1 = .ok (.getfield 12, 3) := by decide +kernel
theorem dX4_reach_4 : decode cX4_reach 4 = .ok (.iload_n 1, 1) := by decide +kernel
theorem dX4_reach_5 : decode cX4_reach 5 = .ok (.invokevirtual 65, 3) := by decide +kernel
theorem dX4_reach_8 : decode cX4_reach 8 = .ok (.ifCond .eq 14, 3) := by decide +kernel
theorem dX4_reach_11 : decode cX4_reach 11 = .ok (.aload_n 0, 1) := by decide +kernel
theorem dX4_reach_12 : decode cX4_reach 12 = .ok (.getfield 12, 3) := by decide +kernel
theorem dX4_reach_15 : decode cX4_reach 15 = .ok (.iload_n 1, 1) := by decide +kernel
theorem dX4_reach_16 : decode cX4_reach 16 = .ok (.invokevirtual 85, 3) := by decide +kernel
theorem dX4_reach_19 : decode cX4_reach 19 = .ok (.goto 9, 3) := by decide +kernel
theorem dX4_reach_22 : decode cX4_reach 22 = .ok (.aload_n 0, 1) := by decide +kernel
theorem dX4_reach_23 : decode cX4_reach 23 = .ok (.ldc 52, 2) := by decide +kernel
theorem dX4_reach_25 : decode cX4_reach 25 = .ok (.invokevirtual 53, 3) := by decide +kernel
theorem dX4_reach_28 : decode cX4_reach 28 = .ok (.ireturn, 1) := by decide +kernel
theorem dX4_move_0 : decode cX4_move 0 = .ok (.aload_n 0, 1) := by decide +kernel
theorem dX4_move_1 : decode cX4_move 1 = .ok (.getfield 12, 3) := by decide +kernel
theorem dX4_move_4 : decode cX4_move 4 = .ok (.iload_n 1, 1) := by decide +kernel
theorem dX4_move_5 : decode cX4_move 5 = .ok (.invokevirtual 65, 3) := by decide +kernel
theorem dX4_move_8 : decode cX4_move 8 = .ok (.ifCond .eq 14, 3) := by decide +kernel
theorem dX4_move_11 : decode cX4_move 11 = .ok (.aload_n 0, 1) := by decide +kernel
theorem dX4_move_12 : decode cX4_move 12 = .ok (.getfield 12, 3) := by decide +kernel
theorem dX4_move_15 : decode cX4_move 15 = .ok (.iload_n 2, 1) := by decide +kernel
theorem dX4_move_16 : decode cX4_move 16 = .ok (.invokevirtual 65, 3) := by decide +kernel
theorem dX4_move_19 : decode cX4_move 19 = .ok (.ifCond .ne 10, 3) := by decide +kernel
theorem dX4_move_22 : decode cX4_move 22 = .ok (.aload_n 0, 1) := by decide +kernel
theorem dX4_move_23 : decode cX4_move 23 = .ok (.ldc 52, 2) := by decide +kernel
theorem dX4_move_25 : decode cX4_move 25 = .ok (.invokevirtual 53, 3) := by decide +kernel
theorem dX4_move_28 : decode cX4_move 28 = .ok (.ireturn, 1) := by decide +kernel
theorem dX4_move_29 : decode cX4_move 29 = .ok (.aload_n 0, 1) := by decide +kernel
theorem dX4_move_30 : decode cX4_move 30 = .ok (.getfield 12, 3) := by decide +kernel
theorem dX4_move_33 : decode cX4_move 33 = .ok (.iload_n 1, 1) := by decide +kernel
theorem dX4_move_34 : decode cX4_move 34 = .ok (.iload_n 2, 1) := by decide +kernel
theorem dX4_move_35 : decode cX4_move 35 = .ok (.invokevirtual 88, 3) := by decide +kernel
theorem dX4_move_38 : decode cX4_move 38 = .ok (.iconst 1, 1) := by decide +kernel
theorem dX4_move_39 : decode cX4_move 39 = .ok (.ireturn, 1) := by decide +kernel
theorem dX4_hours_0 : decode cX4_hours 0 = .ok (.aload_n 0, 1) := by decide +kernel
theorem dX4_hours_1 : decode cX4_hours 1 = .ok (.iload_n 1, 1) := by decide +kernel
theorem dX4_hours_2 : decode cX4_hours 2 = .ok (.bipush 100, 2) := by decide +kernel
theorem dX4_hours_4 : decode cX4_hours 4 = .ok (.invokevirtual 92, 3) := by decide +kernel
theorem dX4_hours_7 : decode cX4_hours 7 = .ok (.istore_n 2, 1) := by decide +kernel
theorem dX4_hours_8 : decode cX4_hours 8 = .ok (.iload_n 2, 1) := by decide +kernel
theorem dX4_hours_9 : decode cX4_hours 9 = .ok (.ifCond .ne 14, 3) := by decide +kernel
theorem dX4_hours_12 : decode cX4_hours 12 = .ok (.aload_n 0, 1) := by decide +kernel
theorem dX4_hours_13 : decode cX4_hours 13 = .ok (.getfield 12, 3) := by decide +kernel
theorem dX4_hours_16 : decode cX4_hours 16 = .ok (.iload_n 1, 1) := by decide +kernel
theorem dX4_hours_17 : decode cX4_hours 17 = .ok (.invokevirtual 96, 3) := by decide +kernel
theorem dX4_hours_20 : decode cX4_hours 20 = .ok (.goto 8, 3) := by decide +kernel
theorem dX4_hours_23 : decode cX4_hours 23 = .ok (.aload_n 0, 1) := by decide +kernel
theorem dX4_hours_24 : decode cX4_hours 24 = .ok (.iload_n 2, 1) := by decide +kernel
theorem dX4_hours_25 : decode cX4_hours 25 = .ok (.invokevirtual 53, 3) := by decide +kernel
theorem dX4_hours_28 : decode cX4_hours 28 = .ok (.ireturn, 1) := by decide +kernel
theorem dX4_now_0 : decode cX4_now 0 = .ok (.iload_n 1, 1) := by decide +kernel
theorem dX4_now_1 : decode cX4_now 1 = .ok (.tableswitch 101 0 5 #[39, 47, 55, 70, 85, 93], 39) := by decide +kernel
theorem dX4_now_40 : decode cX4_now 40 = .ok (.aload_n 0, 1) := by decide +kernel
theorem dX4_now_41 : decode cX4_now 41 = .ok (.getfield 12, 3) := by decide +kernel
theorem dX4_now_44 : decode cX4_now 44 = .ok (.getfield 99, 3) := by decide +kernel
theorem dX4_now_47 : decode cX4_now 47 = .ok (.ireturn, 1) := by decide +kernel
theorem dX4_now_48 : decode cX4_now 48 = .ok (.aload_n 0, 1) := by decide +kernel
theorem dX4_now_49 : decode cX4_now 49 = .ok (.getfield 12, 3) := by decide +kernel
theorem dX4_now_52 : decode cX4_now 52 = .ok (.invokevirtual 102, 3) := by decide +kernel
theorem dX4_now_55 : decode cX4_now 55 = .ok (.ireturn, 1) := by decide +kernel
theorem dX4_now_56 : decode cX4_now 56 = .ok (.aload_n 0, 1) := by decide +kernel
theorem dX4_now_57 : decode cX4_now 57 = .ok (.getfield 12, 3) := by decide +kernel
theorem dX4_now_60 : decode cX4_now 60 = .ok (.aload_n 0, 1) := by decide +kernel
theorem dX4_now_61 : decode cX4_now 61 = .ok (.getfield 12, 3) := by decide +kernel
theorem dX4_now_64 : decode cX4_now 64 = .ok (.getfield 106, 3) := by decide +kernel
theorem dX4_now_67 : decode cX4_now 67 = .ok (.invokevirtual 109, 3) := by decide +kernel
theorem dX4_now_70 : decode cX4_now 70 = .ok (.ireturn, 1) := by decide +kernel
theorem dX4_now_71 : decode cX4_now 71 = .ok (.aload_n 0, 1) := by decide +kernel
theorem dX4_now_72 : decode cX4_now 72 = .ok (.getfield 12, 3) := by decide +kernel
theorem dX4_now_75 : decode cX4_now 75 = .ok (.aload_n 0, 1) := by decide +kernel
theorem dX4_now_76 : decode cX4_now 76 = .ok (.getfield 12, 3) := by decide +kernel
theorem dX4_now_79 : decode cX4_now 79 = .ok (.getfield 113, 3) := by decide +kernel
theorem dX4_now_82 : decode cX4_now 82 = .ok (.invokevirtual 109, 3) := by decide +kernel
theorem dX4_now_85 : decode cX4_now 85 = .ok (.ireturn, 1) := by decide +kernel
theorem dX4_now_86 : decode cX4_now 86 = .ok (.aload_n 0, 1) := by decide +kernel
theorem dX4_now_87 : decode cX4_now 87 = .ok (.getfield 12, 3) := by decide +kernel
theorem dX4_now_90 : decode cX4_now 90 = .ok (.getfield 79, 3) := by decide +kernel
theorem dX4_now_93 : decode cX4_now 93 = .ok (.ireturn, 1) := by decide +kernel
theorem dX4_now_94 : decode cX4_now 94 = .ok (.aload_n 0, 1) := by decide +kernel
theorem dX4_now_95 : decode cX4_now 95 = .ok (.getfield 12, 3) := by decide +kernel
theorem dX4_now_98 : decode cX4_now 98 = .ok (.invokevirtual 116, 3) := by decide +kernel
theorem dX4_now_101 : decode cX4_now 101 = .ok (.ireturn, 1) := by decide +kernel
theorem dX4_now_102 : decode cX4_now 102 = .ok (.aload_n 0, 1) := by decide +kernel
theorem dX4_now_103 : decode cX4_now 103 = .ok (.ldc 52, 2) := by decide +kernel
theorem dX4_now_105 : decode cX4_now 105 = .ok (.invokevirtual 53, 3) := by decide +kernel
theorem dX4_now_108 : decode cX4_now 108 = .ok (.ireturn, 1) := by decide +kernel
theorem dX4_ahead_0 : decode cX4_ahead 0 = .ok (.iload_n 1, 1) := by decide +kernel
theorem dX4_ahead_1 : decode cX4_ahead 1 = .ok (.ifCond .lt 31, 3) := by decide +kernel
theorem dX4_ahead_4 : decode cX4_ahead 4 = .ok (.iload_n 1, 1) := by decide +kernel
theorem dX4_ahead_5 : decode cX4_ahead 5 = .ok (.bipush 100, 2) := by decide +kernel
theorem dX4_ahead_7 : decode cX4_ahead 7 = .ok (.if_icmp .gt 25, 3) := by decide +kernel
theorem dX4_ahead_10 : decode cX4_ahead 10 = .ok (.iload_n 2, 1) := by decide +kernel
theorem dX4_ahead_11 : decode cX4_ahead 11 = .ok (.ifCond .lt 21, 3) := by decide +kernel
theorem dX4_ahead_14 : decode cX4_ahead 14 = .ok (.iload_n 2, 1) := by decide +kernel
theorem dX4_ahead_15 : decode cX4_ahead 15 = .ok (.iconst 3, 1) := by decide +kernel
theorem dX4_ahead_16 : decode cX4_ahead 16 = .ok (.if_icmp .le 23, 3) := by decide +kernel
theorem dX4_ahead_19 : decode cX4_ahead 19 = .ok (.aload_n 0, 1) := by decide +kernel
theorem dX4_ahead_20 : decode cX4_ahead 20 = .ok (.getfield 12, 3) := by decide +kernel
theorem dX4_ahead_23 : decode cX4_ahead 23 = .ok (.iload_n 2, 1) := by decide +kernel
theorem dX4_ahead_24 : decode cX4_ahead 24 = .ok (.iconst 4, 1) := by decide +kernel
theorem dX4_ahead_25 : decode cX4_ahead 25 = .ok (.isub, 1) := by decide +kernel
theorem dX4_ahead_26 : decode cX4_ahead 26 = .ok (.invokevirtual 65, 3) := by decide +kernel
theorem dX4_ahead_29 : decode cX4_ahead 29 = .ok (.ifCond .ne 10, 3) := by decide +kernel
theorem dX4_ahead_32 : decode cX4_ahead 32 = .ok (.aload_n 0, 1) := by decide +kernel
theorem dX4_ahead_33 : decode cX4_ahead 33 = .ok (.ldc 52, 2) := by decide +kernel
theorem dX4_ahead_35 : decode cX4_ahead 35 = .ok (.invokevirtual 53, 3) := by decide +kernel
theorem dX4_ahead_38 : decode cX4_ahead 38 = .ok (.ireturn, 1) := by decide +kernel
theorem dX4_ahead_39 : decode cX4_ahead 39 = .ok (.aload_n 0, 1) := by decide +kernel
theorem dX4_ahead_40 : decode cX4_ahead 40 = .ok (.getfield 12, 3) := by decide +kernel
theorem dX4_ahead_43 : decode cX4_ahead 43 = .ok (.getfield 99, 3) := by decide +kernel
theorem dX4_ahead_46 : decode cX4_ahead 46 = .ok (.iload_n 1, 1) := by decide +kernel
theorem dX4_ahead_47 : decode cX4_ahead 47 = .ok (.iadd, 1) := by decide +kernel
theorem dX4_ahead_48 : decode cX4_ahead 48 = .ok (.sipush 9999, 3) := by decide +kernel
theorem dX4_ahead_51 : decode cX4_ahead 51 = .ok (.if_icmp .le 10, 3) := by decide +kernel
theorem dX4_ahead_54 : decode cX4_ahead 54 = .ok (.aload_n 0, 1) := by decide +kernel
theorem dX4_ahead_55 : decode cX4_ahead 55 = .ok (.ldc 119, 2) := by decide +kernel
theorem dX4_ahead_57 : decode cX4_ahead 57 = .ok (.invokevirtual 53, 3) := by decide +kernel
theorem dX4_ahead_60 : decode cX4_ahead 60 = .ok (.ireturn, 1) := by decide +kernel
theorem dX4_ahead_61 : decode cX4_ahead 61 = .ok (.aload_n 0, 1) := by decide +kernel
theorem dX4_ahead_62 : decode cX4_ahead 62 = .ok (.invokevirtual 120, 3) := by decide +kernel
theorem dX4_ahead_65 : decode cX4_ahead 65 = .ok (.aload_n 0, 1) := by decide +kernel
theorem dX4_ahead_66 : decode cX4_ahead 66 = .ok (.getfield 16, 3) := by decide +kernel
theorem dX4_ahead_69 : decode cX4_ahead 69 = .ok (.iload_n 1, 1) := by decide +kernel
theorem dX4_ahead_70 : decode cX4_ahead 70 = .ok (.invokevirtual 96, 3) := by decide +kernel
theorem dX4_ahead_73 : decode cX4_ahead 73 = .ok (.istore_n 3, 1) := by decide +kernel
theorem dX4_ahead_74 : decode cX4_ahead 74 = .ok (.iload_n 2, 1) := by decide +kernel
theorem dX4_ahead_75 : decode cX4_ahead 75 = .ok (.tableswitch 62 0 3 #[29, 31, 39, 54], 29) := by decide +kernel
theorem dX4_ahead_104 : decode cX4_ahead 104 = .ok (.iload_n 3, 1) := by decide +kernel
theorem dX4_ahead_105 : decode cX4_ahead 105 = .ok (.ireturn, 1) := by decide +kernel
theorem dX4_ahead_106 : decode cX4_ahead 106 = .ok (.aload_n 0, 1) := by decide +kernel
theorem dX4_ahead_107 : decode cX4_ahead 107 = .ok (.getfield 16, 3) := by decide +kernel
theorem dX4_ahead_110 : decode cX4_ahead 110 = .ok (.invokevirtual 102, 3) := by decide +kernel
theorem dX4_ahead_113 : decode cX4_ahead 113 = .ok (.ireturn, 1) := by decide +kernel
theorem dX4_ahead_114 : decode cX4_ahead 114 = .ok (.aload_n 0, 1) := by decide +kernel
theorem dX4_ahead_115 : decode cX4_ahead 115 = .ok (.getfield 16, 3) := by decide +kernel
theorem dX4_ahead_118 : decode cX4_ahead 118 = .ok (.aload_n 0, 1) := by decide +kernel
theorem dX4_ahead_119 : decode cX4_ahead 119 = .ok (.getfield 16, 3) := by decide +kernel
theorem dX4_ahead_122 : decode cX4_ahead 122 = .ok (.getfield 113, 3) := by decide +kernel
theorem dX4_ahead_125 : decode cX4_ahead 125 = .ok (.invokevirtual 109, 3) := by decide +kernel
theorem dX4_ahead_128 : decode cX4_ahead 128 = .ok (.ireturn, 1) := by decide +kernel
theorem dX4_ahead_129 : decode cX4_ahead 129 = .ok (.aload_n 0, 1) := by decide +kernel
theorem dX4_ahead_130 : decode cX4_ahead 130 = .ok (.getfield 16, 3) := by decide +kernel
theorem dX4_ahead_133 : decode cX4_ahead 133 = .ok (.invokevirtual 123, 3) := by decide +kernel
theorem dX4_ahead_136 : decode cX4_ahead 136 = .ok (.ireturn, 1) := by decide +kernel
theorem dX4_ahead_137 : decode cX4_ahead 137 = .ok (.aload_n 0, 1) := by decide +kernel
theorem dX4_ahead_138 : decode cX4_ahead 138 = .ok (.getfield 16, 3) := by decide +kernel
theorem dX4_ahead_141 : decode cX4_ahead 141 = .ok (.getfield 113, 3) := by decide +kernel
theorem dX4_ahead_144 : decode cX4_ahead 144 = .ok (.iload_n 2, 1) := by decide +kernel
theorem dX4_ahead_145 : decode cX4_ahead 145 = .ok (.iconst 4, 1) := by decide +kernel
theorem dX4_ahead_146 : decode cX4_ahead 146 = .ok (.isub, 1) := by decide +kernel
theorem dX4_ahead_147 : decode cX4_ahead 147 = .ok (.iaload, 1) := by decide +kernel
theorem dX4_ahead_148 : decode cX4_ahead 148 = .ok (.ireturn, 1) := by decide +kernel
theorem dX4_cold_0 : decode cX4_cold 0 = .ok (.aload_n 0, 1) := by decide +kernel
theorem dX4_cold_1 : decode cX4_cold 1 = .ok (.iload_n 1, 1) := by decide +kernel
theorem dX4_cold_2 : decode cX4_cold 2 = .ok (.iconst 1, 1) := by decide +kernel
theorem dX4_cold_3 : decode cX4_cold 3 = .ok (.bipush 60, 2) := by decide +kernel
theorem dX4_cold_5 : decode cX4_cold 5 = .ok (.invokevirtual 126, 3) := by decide +kernel
theorem dX4_cold_8 : decode cX4_cold 8 = .ok (.ireturn, 1) := by decide +kernel
theorem dX4_spent_0 : decode cX4_spent 0 = .ok (.aload_n 0, 1) := by decide +kernel
theorem dX4_spent_1 : decode cX4_spent 1 = .ok (.iload_n 1, 1) := by decide +kernel
theorem dX4_spent_2 : decode cX4_spent 2 = .ok (.iconst 2, 1) := by decide +kernel
theorem dX4_spent_3 : decode cX4_spent 3 = .ok (.iconst 1, 1) := by decide +kernel
theorem dX4_spent_4 : decode cX4_spent 4 = .ok (.invokevirtual 126, 3) := by decide +kernel
theorem dX4_spent_7 : decode cX4_spent 7 = .ok (.ireturn, 1) := by decide +kernel
theorem dX4_firstBelow_0 : decode cX4_firstBelow 0 = .ok (.aload_n 0, 1) := by decide +kernel
theorem dX4_firstBelow_1 : decode cX4_firstBelow 1 = .ok (.getfield 12, 3) := by decide +kernel
theorem dX4_firstBelow_4 : decode cX4_firstBelow 4 = .ok (.iload_n 1, 1) := by decide +kernel
theorem dX4_firstBelow_5 : decode cX4_firstBelow 5 = .ok (.invokevirtual 65, 3) := by decide +kernel
theorem dX4_firstBelow_8 : decode cX4_firstBelow 8 = .ok (.ifCond .ne 10, 3) := by decide +kernel
theorem dX4_firstBelow_11 : decode cX4_firstBelow 11 = .ok (.aload_n 0, 1) := by decide +kernel
theorem dX4_firstBelow_12 : decode cX4_firstBelow 12 = .ok (.ldc 52, 2) := by decide +kernel
theorem dX4_firstBelow_14 : decode cX4_firstBelow 14 = .ok (.invokevirtual 53, 3) := by decide +kernel
theorem dX4_firstBelow_17 : decode cX4_firstBelow 17 = .ok (.ireturn, 1) := by decide +kernel
theorem dX4_firstBelow_18 : decode cX4_firstBelow 18 = .ok (.aload_n 0, 1) := by decide +kernel
theorem dX4_firstBelow_19 : decode cX4_firstBelow 19 = .ok (.invokevirtual 130, 3) := by decide +kernel
theorem dX4_firstBelow_22 : decode cX4_firstBelow 22 = .ok (.ifCond .eq 10, 3) := by decide +kernel
theorem dX4_firstBelow_25 : decode cX4_firstBelow 25 = .ok (.aload_n 0, 1) := by decide +kernel
theorem dX4_firstBelow_26 : decode cX4_firstBelow 26 = .ok (.ldc 119, 2) := by decide +kernel
theorem dX4_firstBelow_28 : decode cX4_firstBelow 28 = .ok (.invokevirtual 53, 3) := by decide +kernel
theorem dX4_firstBelow_31 : decode cX4_firstBelow 31 = .ok (.ireturn, 1) := by decide +kernel
theorem dX4_firstBelow_32 : decode cX4_firstBelow 32 = .ok (.aload_n 0, 1) := by decide +kernel
theorem dX4_firstBelow_33 : decode cX4_firstBelow 33 = .ok (.invokevirtual 120, 3) := by decide +kernel
theorem dX4_firstBelow_36 : decode cX4_firstBelow 36 = .ok (.iload_n 2, 1) := by decide +kernel
theorem dX4_firstBelow_37 : decode cX4_firstBelow 37 = .ok (.iconst 1, 1) := by decide +kernel
theorem dX4_firstBelow_38 : decode cX4_firstBelow 38 = .ok (.if_icmp .ne 13, 3) := by decide +kernel
theorem dX4_firstBelow_41 : decode cX4_firstBelow 41 = .ok (.aload_n 0, 1) := by decide +kernel
theorem dX4_firstBelow_42 : decode cX4_firstBelow 42 = .ok (.getfield 16, 3) := by decide +kernel
theorem dX4_firstBelow_45 : decode cX4_firstBelow 45 = .ok (.getfield 113, 3) := by decide +kernel
theorem dX4_firstBelow_48 : decode cX4_firstBelow 48 = .ok (.goto 10, 3) := by decide +kernel
theorem dX4_firstBelow_51 : decode cX4_firstBelow 51 = .ok (.aload_n 0, 1) := by decide +kernel
theorem dX4_firstBelow_52 : decode cX4_firstBelow 52 = .ok (.getfield 16, 3) := by decide +kernel
theorem dX4_firstBelow_55 : decode cX4_firstBelow 55 = .ok (.getfield 106, 3) := by decide +kernel
theorem dX4_firstBelow_58 : decode cX4_firstBelow 58 = .ok (.astore 4, 2) := by decide +kernel
theorem dX4_firstBelow_60 : decode cX4_firstBelow 60 = .ok (.iconst 0, 1) := by decide +kernel
theorem dX4_firstBelow_61 : decode cX4_firstBelow 61 = .ok (.istore 5, 2) := by decide +kernel
theorem dX4_firstBelow_63 : decode cX4_firstBelow 63 = .ok (.iload 5, 2) := by decide +kernel
theorem dX4_firstBelow_65 : decode cX4_firstBelow 65 = .ok (.bipush 100, 2) := by decide +kernel
theorem dX4_firstBelow_67 : decode cX4_firstBelow 67 = .ok (.if_icmp .gt 28, 3) := by decide +kernel
theorem dX4_firstBelow_70 : decode cX4_firstBelow 70 = .ok (.aload 4, 2) := by decide +kernel
theorem dX4_firstBelow_72 : decode cX4_firstBelow 72 = .ok (.iload_n 1, 1) := by decide +kernel
theorem dX4_firstBelow_73 : decode cX4_firstBelow 73 = .ok (.iaload, 1) := by decide +kernel
theorem dX4_firstBelow_74 : decode cX4_firstBelow 74 = .ok (.iload_n 3, 1) := by decide +kernel
theorem dX4_firstBelow_75 : decode cX4_firstBelow 75 = .ok (.if_icmp .ge 6, 3) := by decide +kernel
theorem dX4_firstBelow_78 : decode cX4_firstBelow 78 = .ok (.iload 5, 2) := by decide +kernel
theorem dX4_firstBelow_80 : decode cX4_firstBelow 80 = .ok (.ireturn, 1) := by decide +kernel
theorem dX4_firstBelow_81 : decode cX4_firstBelow 81 = .ok (.aload_n 0, 1) := by decide +kernel
theorem dX4_firstBelow_82 : decode cX4_firstBelow 82 = .ok (.getfield 16, 3) := by decide +kernel
theorem dX4_firstBelow_85 : decode cX4_firstBelow 85 = .ok (.invokevirtual 134, 3) := by decide +kernel
theorem dX4_firstBelow_88 : decode cX4_firstBelow 88 = .ok (.pop, 1) := by decide +kernel
theorem dX4_firstBelow_89 : decode cX4_firstBelow 89 = .ok (.iinc 5 1, 3) := by decide +kernel
theorem dX4_firstBelow_92 : decode cX4_firstBelow 92 = .ok (.goto (-29), 3) := by decide +kernel
theorem dX4_firstBelow_95 : decode cX4_firstBelow 95 = .ok (.aload_n 0, 1) := by decide +kernel
theorem dX4_firstBelow_96 : decode cX4_firstBelow 96 = .ok (.ldc 137, 2) := by decide +kernel
theorem dX4_firstBelow_98 : decode cX4_firstBelow 98 = .ok (.invokevirtual 53, 3) := by decide +kernel
theorem dX4_firstBelow_101 : decode cX4_firstBelow 101 = .ok (.ireturn, 1) := by decide +kernel
theorem dX4_rest_0 : decode cX4_rest 0 = .ok (.aload_n 0, 1) := by decide +kernel
theorem dX4_rest_1 : decode cX4_rest 1 = .ok (.invokevirtual 130, 3) := by decide +kernel
theorem dX4_rest_4 : decode cX4_rest 4 = .ok (.ifCond .eq 10, 3) := by decide +kernel
theorem dX4_rest_7 : decode cX4_rest 7 = .ok (.aload_n 0, 1) := by decide +kernel
theorem dX4_rest_8 : decode cX4_rest 8 = .ok (.ldc 119, 2) := by decide +kernel
theorem dX4_rest_10 : decode cX4_rest 10 = .ok (.invokevirtual 53, 3) := by decide +kernel
theorem dX4_rest_13 : decode cX4_rest 13 = .ok (.ireturn, 1) := by decide +kernel
theorem dX4_rest_14 : decode cX4_rest 14 = .ok (.aload_n 0, 1) := by decide +kernel
theorem dX4_rest_15 : decode cX4_rest 15 = .ok (.invokevirtual 120, 3) := by decide +kernel
theorem dX4_rest_18 : decode cX4_rest 18 = .ok (.iconst 1, 1) := by decide +kernel
theorem dX4_rest_19 : decode cX4_rest 19 = .ok (.istore_n 1, 1) := by decide +kernel
theorem dX4_rest_20 : decode cX4_rest 20 = .ok (.iload_n 1, 1) := by decide +kernel
theorem dX4_rest_21 : decode cX4_rest 21 = .ok (.bipush 60, 2) := by decide +kernel
theorem dX4_rest_23 : decode cX4_rest 23 = .ok (.if_icmp .gt 29, 3) := by decide +kernel
theorem dX4_rest_26 : decode cX4_rest 26 = .ok (.aload_n 0, 1) := by decide +kernel
theorem dX4_rest_27 : decode cX4_rest 27 = .ok (.getfield 16, 3) := by decide +kernel
theorem dX4_rest_30 : decode cX4_rest 30 = .ok (.invokevirtual 138, 3) := by decide +kernel
theorem dX4_rest_33 : decode cX4_rest 33 = .ok (.ifCond .eq 5, 3) := by decide +kernel
theorem dX4_rest_36 : decode cX4_rest 36 = .ok (.iload_n 1, 1) := by decide +kernel
theorem dX4_rest_37 : decode cX4_rest 37 = .ok (.ireturn, 1) := by decide +kernel
theorem dX4_rest_38 : decode cX4_rest 38 = .ok (.aload_n 0, 1) := by decide +kernel
theorem dX4_rest_39 : decode cX4_rest 39 = .ok (.getfield 16, 3) := by decide +kernel
theorem dX4_rest_42 : decode cX4_rest 42 = .ok (.invokevirtual 134, 3) := by decide +kernel
theorem dX4_rest_45 : decode cX4_rest 45 = .ok (.pop, 1) := by decide +kernel
theorem dX4_rest_46 : decode cX4_rest 46 = .ok (.iinc 1 1, 3) := by decide +kernel
theorem dX4_rest_49 : decode cX4_rest 49 = .ok (.goto (-29), 3) := by decide +kernel
theorem dX4_rest_52 : decode cX4_rest 52 = .ok (.aload_n 0, 1) := by decide +kernel
theorem dX4_rest_53 : decode cX4_rest 53 = .ok (.ldc 137, 2) := by decide +kernel
theorem dX4_rest_55 : decode cX4_rest 55 = .ok (.invokevirtual 53, 3) := by decide +kernel
theorem dX4_rest_58 : decode cX4_rest 58 = .ok (.ireturn, 1) := by decide +kernel
theorem dX4_circle_0 : decode cX4_circle 0 = .ok (.aload_n 0, 1) := by decide +kernel
theorem dX4_circle_1 : decode cX4_circle 1 = .ok (.invokevirtual 130, 3) := by decide +kernel
theorem dX4_circle_4 : decode cX4_circle 4 = .ok (.ifCond .eq 10, 3) := by decide +kernel
theorem dX4_circle_7 : decode cX4_circle 7 = .ok (.aload_n 0, 1) := by decide +kernel
theorem dX4_circle_8 : decode cX4_circle 8 = .ok (.ldc 119, 2) := by decide +kernel
theorem dX4_circle_10 : decode cX4_circle 10 = .ok (.invokevirtual 53, 3) := by decide +kernel
theorem dX4_circle_13 : decode cX4_circle 13 = .ok (.ireturn, 1) := by decide +kernel
theorem dX4_circle_14 : decode cX4_circle 14 = .ok (.aload_n 0, 1) := by decide +kernel
theorem dX4_circle_15 : decode cX4_circle 15 = .ok (.bipush 24, 2) := by decide +kernel
theorem dX4_circle_17 : decode cX4_circle 17 = .ok (.invokevirtual 141, 3) := by decide +kernel
theorem dX4_circle_20 : decode cX4_circle 20 = .ok (.aload_n 0, 1) := by decide +kernel
theorem dX4_circle_21 : decode cX4_circle 21 = .ok (.getfield 16, 3) := by decide +kernel
theorem dX4_circle_24 : decode cX4_circle 24 = .ok (.aload_n 0, 1) := by decide +kernel
theorem dX4_circle_25 : decode cX4_circle 25 = .ok (.getfield 19, 3) := by decide +kernel
theorem dX4_circle_28 : decode cX4_circle 28 = .ok (.invokevirtual 145, 3) := by decide +kernel
theorem dX4_circle_31 : decode cX4_circle 31 = .ok (.iconst 1, 1) := by decide +kernel
theorem dX4_circle_32 : decode cX4_circle 32 = .ok (.istore_n 1, 1) := by decide +kernel
theorem dX4_circle_33 : decode cX4_circle 33 = .ok (.iload_n 1, 1) := by decide +kernel
theorem dX4_circle_34 : decode cX4_circle 34 = .ok (.bipush 12, 2) := by decide +kernel
theorem dX4_circle_36 : decode cX4_circle 36 = .ok (.if_icmp .gt 33, 3) := by decide +kernel
theorem dX4_circle_39 : decode cX4_circle 39 = .ok (.aload_n 0, 1) := by decide +kernel
theorem dX4_circle_40 : decode cX4_circle 40 = .ok (.getfield 16, 3) := by decide +kernel
theorem dX4_circle_43 : decode cX4_circle 43 = .ok (.invokevirtual 134, 3) := by decide +kernel
theorem dX4_circle_46 : decode cX4_circle 46 = .ok (.pop, 1) := by decide +kernel
theorem dX4_circle_47 : decode cX4_circle 47 = .ok (.aload_n 0, 1) := by decide +kernel
theorem dX4_circle_48 : decode cX4_circle 48 = .ok (.getfield 16, 3) := by decide +kernel
theorem dX4_circle_51 : decode cX4_circle 51 = .ok (.aload_n 0, 1) := by decide +kernel
theorem dX4_circle_52 : decode cX4_circle 52 = .ok (.getfield 19, 3) := by decide +kernel
theorem dX4_circle_55 : decode cX4_circle 55 = .ok (.invokevirtual 149, 3) := by decide +kernel
theorem dX4_circle_58 : decode cX4_circle 58 = .ok (.ifCond .eq 5, 3) := by decide +kernel
theorem dX4_circle_61 : decode cX4_circle 61 = .ok (.iload_n 1, 1) := by decide +kernel
theorem dX4_circle_62 : decode cX4_circle 62 = .ok (.ireturn, 1) := by decide +kernel
theorem dX4_circle_63 : decode cX4_circle 63 = .ok (.iinc 1 1, 3) := by decide +kernel
theorem dX4_circle_66 : decode cX4_circle 66 = .ok (.goto (-33), 3) := by decide +kernel
theorem dX4_circle_69 : decode cX4_circle 69 = .ok (.aload_n 0, 1) := by decide +kernel
theorem dX4_circle_70 : decode cX4_circle 70 = .ok (.ldc 137, 2) := by decide +kernel
theorem dX4_circle_72 : decode cX4_circle 72 = .ok (.invokevirtual 53, 3) := by decide +kernel
theorem dX4_circle_75 : decode cX4_circle 75 = .ok (.ireturn, 1) := by decide +kernel
theorem dX4_spread_0 : decode cX4_spread 0 = .ok (.aload_n 0, 1) := by decide +kernel
theorem dX4_spread_1 : decode cX4_spread 1 = .ok (.iload_n 1, 1) := by decide +kernel
theorem dX4_spread_2 : decode cX4_spread 2 = .ok (.iload_n 2, 1) := by decide +kernel
theorem dX4_spread_3 : decode cX4_spread 3 = .ok (.invokevirtual 153, 3) := by decide +kernel
theorem dX4_spread_6 : decode cX4_spread 6 = .ok (.istore_n 3, 1) := by decide +kernel
theorem dX4_spread_7 : decode cX4_spread 7 = .ok (.iload_n 3, 1) := by decide +kernel
theorem dX4_spread_8 : decode cX4_spread 8 = .ok (.ifCond .eq 9, 3) := by decide +kernel
theorem dX4_spread_11 : decode cX4_spread 11 = .ok (.aload_n 0, 1) := by decide +kernel
theorem dX4_spread_12 : decode cX4_spread 12 = .ok (.iload_n 3, 1) := by decide +kernel
theorem dX4_spread_13 : decode cX4_spread 13 = .ok (.invokevirtual 53, 3) := by decide +kernel
theorem dX4_spread_16 : decode cX4_spread 16 = .ok (.ireturn, 1) := by decide +kernel
theorem dX4_spread_17 : decode cX4_spread 17 = .ok (.aload_n 0, 1) := by decide +kernel
theorem dX4_spread_18 : decode cX4_spread 18 = .ok (.iload_n 2, 1) := by decide +kernel
theorem dX4_spread_19 : decode cX4_spread 19 = .ok (.invokevirtual 141, 3) := by decide +kernel
theorem dX4_spread_22 : decode cX4_spread 22 = .ok (.aload_n 0, 1) := by decide +kernel
theorem dX4_spread_23 : decode cX4_spread 23 = .ok (.iload_n 1, 1) := by decide +kernel
theorem dX4_spread_24 : decode cX4_spread 24 = .ok (.iconst 0, 1) := by decide +kernel
theorem dX4_spread_25 : decode cX4_spread 25 = .ok (.iconst 3, 1) := by decide +kernel
theorem dX4_spread_26 : decode cX4_spread 26 = .ok (.iload_n 2, 1) := by decide +kernel
theorem dX4_spread_27 : decode cX4_spread 27 = .ok (.invokevirtual 156, 3) := by decide +kernel
theorem dX4_spread_30 : decode cX4_spread 30 = .ok (.aload_n 0, 1) := by decide +kernel
theorem dX4_spread_31 : decode cX4_spread 31 = .ok (.getfield 19, 3) := by decide +kernel
theorem dX4_spread_34 : decode cX4_spread 34 = .ok (.aload_n 0, 1) := by decide +kernel
theorem dX4_spread_35 : decode cX4_spread 35 = .ok (.getfield 16, 3) := by decide +kernel
theorem dX4_spread_38 : decode cX4_spread 38 = .ok (.invokevirtual 160, 3) := by decide +kernel
theorem dX4_spread_41 : decode cX4_spread 41 = .ok (.ireturn, 1) := by decide +kernel
theorem dX4_kindFor_0 : decode cX4_kindFor 0 = .ok (.aload_n 0, 1) := by decide +kernel
theorem dX4_kindFor_1 : decode cX4_kindFor 1 = .ok (.iload_n 1, 1) := by decide +kernel
theorem dX4_kindFor_2 : decode cX4_kindFor 2 = .ok (.iload_n 2, 1) := by decide +kernel
theorem dX4_kindFor_3 : decode cX4_kindFor 3 = .ok (.invokevirtual 153, 3) := by decide +kernel
theorem dX4_kindFor_6 : decode cX4_kindFor 6 = .ok (.istore_n 3, 1) := by decide +kernel
theorem dX4_kindFor_7 : decode cX4_kindFor 7 = .ok (.iload_n 3, 1) := by decide +kernel
theorem dX4_kindFor_8 : decode cX4_kindFor 8 = .ok (.ifCond .eq 9, 3) := by decide +kernel
theorem dX4_kindFor_11 : decode cX4_kindFor 11 = .ok (.aload_n 0, 1) := by decide +kernel
theorem dX4_kindFor_12 : decode cX4_kindFor 12 = .ok (.iload_n 3, 1) := by decide +kernel
theorem dX4_kindFor_13 : decode cX4_kindFor 13 = .ok (.invokevirtual 53, 3) := by decide +kernel
theorem dX4_kindFor_16 : decode cX4_kindFor 16 = .ok (.ireturn, 1) := by decide +kernel
theorem dX4_kindFor_17 : decode cX4_kindFor 17 = .ok (.aload_n 0, 1) := by decide +kernel
theorem dX4_kindFor_18 : decode cX4_kindFor 18 = .ok (.iload_n 1, 1) := by decide +kernel
theorem dX4_kindFor_19 : decode cX4_kindFor 19 = .ok (.iconst 0, 1) := by decide +kernel
theorem dX4_kindFor_20 : decode cX4_kindFor 20 = .ok (.iload_n 2, 1) := by decide +kernel
theorem dX4_kindFor_21 : decode cX4_kindFor 21 = .ok (.invokevirtual 164, 3) := by decide +kernel
theorem dX4_kindFor_24 : decode cX4_kindFor 24 = .ok (.ireturn, 1) := by decide +kernel
theorem dX4_bestForItself_0 : decode cX4_bestForItself 0 = .ok (.iconst 0, 1) := by decide +kernel
theorem dX4_bestForItself_1 : decode cX4_bestForItself 1 = .ok (.istore 4, 2) := by decide +kernel
theorem dX4_bestForItself_3 : decode cX4_bestForItself 3 = .ok (.iconst (-1), 1) := by decide +kernel
theorem dX4_bestForItself_4 : decode cX4_bestForItself 4 = .ok (.istore 5, 2) := by decide +kernel
theorem dX4_bestForItself_6 : decode cX4_bestForItself 6 = .ok (.getstatic 167, 3) := by decide +kernel
theorem dX4_bestForItself_9 : decode cX4_bestForItself 9 = .ok (.iload_n 2, 1) := by decide +kernel
theorem dX4_bestForItself_10 : decode cX4_bestForItself 10 = .ok (.iaload, 1) := by decide +kernel
theorem dX4_bestForItself_11 : decode cX4_bestForItself 11 = .ok (.istore 6, 2) := by decide +kernel
theorem dX4_bestForItself_13 : decode cX4_bestForItself 13 = .ok (.iload 6, 2) := by decide +kernel
theorem dX4_bestForItself_15 : decode cX4_bestForItself 15 = .ok (.getstatic 170, 3) := by decide +kernel
theorem dX4_bestForItself_18 : decode cX4_bestForItself 18 = .ok (.iload_n 2, 1) := by decide +kernel
theorem dX4_bestForItself_19 : decode cX4_bestForItself 19 = .ok (.iaload, 1) := by decide +kernel
theorem dX4_bestForItself_20 : decode cX4_bestForItself 20 = .ok (.if_icmp .gt 47, 3) := by decide +kernel
theorem dX4_bestForItself_23 : decode cX4_bestForItself 23 = .ok (.aload_n 0, 1) := by decide +kernel
theorem dX4_bestForItself_24 : decode cX4_bestForItself 24 = .ok (.iload_n 1, 1) := by decide +kernel
theorem dX4_bestForItself_25 : decode cX4_bestForItself 25 = .ok (.iload_n 2, 1) := by decide +kernel
theorem dX4_bestForItself_26 : decode cX4_bestForItself 26 = .ok (.iload 6, 2) := by decide +kernel
theorem dX4_bestForItself_28 : decode cX4_bestForItself 28 = .ok (.iload_n 3, 1) := by decide +kernel
theorem dX4_bestForItself_29 : decode cX4_bestForItself 29 = .ok (.invokevirtual 156, 3) := by decide +kernel
theorem dX4_bestForItself_32 : decode cX4_bestForItself 32 = .ok (.aload_n 0, 1) := by decide +kernel
theorem dX4_bestForItself_33 : decode cX4_bestForItself 33 = .ok (.getfield 16, 3) := by decide +kernel
theorem dX4_bestForItself_36 : decode cX4_bestForItself 36 = .ok (.getfield 113, 3) := by decide +kernel
theorem dX4_bestForItself_39 : decode cX4_bestForItself 39 = .ok (.iload_n 1, 1) := by decide +kernel
theorem dX4_bestForItself_40 : decode cX4_bestForItself 40 = .ok (.iaload, 1) := by decide +kernel
theorem dX4_bestForItself_41 : decode cX4_bestForItself 41 = .ok (.iload 5, 2) := by decide +kernel
theorem dX4_bestForItself_43 : decode cX4_bestForItself 43 = .ok (.if_icmp .le 18, 3) := by decide +kernel
theorem dX4_bestForItself_46 : decode cX4_bestForItself 46 = .ok (.aload_n 0, 1) := by decide +kernel
theorem dX4_bestForItself_47 : decode cX4_bestForItself 47 = .ok (.getfield 16, 3) := by decide +kernel
theorem dX4_bestForItself_50 : decode cX4_bestForItself 50 = .ok (.getfield 113, 3) := by decide +kernel
theorem dX4_bestForItself_53 : decode cX4_bestForItself 53 = .ok (.iload_n 1, 1) := by decide +kernel
theorem dX4_bestForItself_54 : decode cX4_bestForItself 54 = .ok (.iaload, 1) := by decide +kernel
theorem dX4_bestForItself_55 : decode cX4_bestForItself 55 = .ok (.istore 5, 2) := by decide +kernel
theorem dX4_bestForItself_57 : decode cX4_bestForItself 57 = .ok (.iload 6, 2) := by decide +kernel
theorem dX4_bestForItself_59 : decode cX4_bestForItself 59 = .ok (.istore 4, 2) := by decide +kernel
theorem dX4_bestForItself_61 : decode cX4_bestForItself 61 = .ok (.iinc 6 1, 3) := by decide +kernel
theorem dX4_bestForItself_64 : decode cX4_bestForItself 64 = .ok (.goto (-51), 3) := by decide +kernel
theorem dX4_bestForItself_67 : decode cX4_bestForItself 67 = .ok (.iload 4, 2) := by decide +kernel
theorem dX4_bestForItself_69 : decode cX4_bestForItself 69 = .ok (.ireturn, 1) := by decide +kernel
theorem dX4_tempted_0 : decode cX4_tempted 0 = .ok (.aload_n 0, 1) := by decide +kernel
theorem dX4_tempted_1 : decode cX4_tempted 1 = .ok (.iload_n 1, 1) := by decide +kernel
theorem dX4_tempted_2 : decode cX4_tempted 2 = .ok (.bipush 60, 2) := by decide +kernel
theorem dX4_tempted_4 : decode cX4_tempted 4 = .ok (.invokevirtual 92, 3) := by decide +kernel
theorem dX4_tempted_7 : decode cX4_tempted 7 = .ok (.istore_n 2, 1) := by decide +kernel
theorem dX4_tempted_8 : decode cX4_tempted 8 = .ok (.iload_n 2, 1) := by decide +kernel
theorem dX4_tempted_9 : decode cX4_tempted 9 = .ok (.ifCond .eq 9, 3) := by decide +kernel
theorem dX4_tempted_12 : decode cX4_tempted 12 = .ok (.aload_n 0, 1) := by decide +kernel
theorem dX4_tempted_13 : decode cX4_tempted 13 = .ok (.iload_n 2, 1) := by decide +kernel
theorem dX4_tempted_14 : decode cX4_tempted 14 = .ok (.invokevirtual 53, 3) := by decide +kernel
theorem dX4_tempted_17 : decode cX4_tempted 17 = .ok (.ireturn, 1) := by decide +kernel
theorem dX4_tempted_18 : decode cX4_tempted 18 = .ok (.aload_n 0, 1) := by decide +kernel
theorem dX4_tempted_19 : decode cX4_tempted 19 = .ok (.iload_n 1, 1) := by decide +kernel
theorem dX4_tempted_20 : decode cX4_tempted 20 = .ok (.invokevirtual 141, 3) := by decide +kernel
theorem dX4_tempted_23 : decode cX4_tempted 23 = .ok (.iconst 0, 1) := by decide +kernel
theorem dX4_tempted_24 : decode cX4_tempted 24 = .ok (.istore_n 3, 1) := by decide +kernel
theorem dX4_tempted_25 : decode cX4_tempted 25 = .ok (.iconst 0, 1) := by decide +kernel
theorem dX4_tempted_26 : decode cX4_tempted 26 = .ok (.istore 4, 2) := by decide +kernel
theorem dX4_tempted_28 : decode cX4_tempted 28 = .ok (.iload 4, 2) := by decide +kernel
theorem dX4_tempted_30 : decode cX4_tempted 30 = .ok (.aload_n 0, 1) := by decide +kernel
theorem dX4_tempted_31 : decode cX4_tempted 31 = .ok (.getfield 12, 3) := by decide +kernel
theorem dX4_tempted_34 : decode cX4_tempted 34 = .ok (.getfield 57, 3) := by decide +kernel
theorem dX4_tempted_37 : decode cX4_tempted 37 = .ok (.if_icmp .ge 48, 3) := by decide +kernel
theorem dX4_tempted_40 : decode cX4_tempted 40 = .ok (.aload_n 0, 1) := by decide +kernel
theorem dX4_tempted_41 : decode cX4_tempted 41 = .ok (.iload 4, 2) := by decide +kernel
theorem dX4_tempted_43 : decode cX4_tempted 43 = .ok (.iconst 0, 1) := by decide +kernel
theorem dX4_tempted_44 : decode cX4_tempted 44 = .ok (.iconst 0, 1) := by decide +kernel
theorem dX4_tempted_45 : decode cX4_tempted 45 = .ok (.iload_n 1, 1) := by decide +kernel
theorem dX4_tempted_46 : decode cX4_tempted 46 = .ok (.invokevirtual 156, 3) := by decide +kernel
theorem dX4_tempted_49 : decode cX4_tempted 49 = .ok (.aload_n 0, 1) := by decide +kernel
theorem dX4_tempted_50 : decode cX4_tempted 50 = .ok (.getfield 16, 3) := by decide +kernel
theorem dX4_tempted_53 : decode cX4_tempted 53 = .ok (.getfield 113, 3) := by decide +kernel
theorem dX4_tempted_56 : decode cX4_tempted 56 = .ok (.iload 4, 2) := by decide +kernel
theorem dX4_tempted_58 : decode cX4_tempted 58 = .ok (.iaload, 1) := by decide +kernel
theorem dX4_tempted_59 : decode cX4_tempted 59 = .ok (.aload_n 0, 1) := by decide +kernel
theorem dX4_tempted_60 : decode cX4_tempted 60 = .ok (.getfield 19, 3) := by decide +kernel
theorem dX4_tempted_63 : decode cX4_tempted 63 = .ok (.getfield 113, 3) := by decide +kernel
theorem dX4_tempted_66 : decode cX4_tempted 66 = .ok (.iload 4, 2) := by decide +kernel
theorem dX4_tempted_68 : decode cX4_tempted 68 = .ok (.iaload, 1) := by decide +kernel
theorem dX4_tempted_69 : decode cX4_tempted 69 = .ok (.if_icmp .le 10, 3) := by decide +kernel
theorem dX4_tempted_72 : decode cX4_tempted 72 = .ok (.iload_n 3, 1) := by decide +kernel
theorem dX4_tempted_73 : decode cX4_tempted 73 = .ok (.iconst 1, 1) := by decide +kernel
theorem dX4_tempted_74 : decode cX4_tempted 74 = .ok (.iload 4, 2) := by decide +kernel
theorem dX4_tempted_76 : decode cX4_tempted 76 = .ok (.ishl, 1) := by decide +kernel
theorem dX4_tempted_77 : decode cX4_tempted 77 = .ok (.ior, 1) := by decide +kernel
theorem dX4_tempted_78 : decode cX4_tempted 78 = .ok (.istore_n 3, 1) := by decide +kernel
theorem dX4_tempted_79 : decode cX4_tempted 79 = .ok (.iinc 4 1, 3) := by decide +kernel
theorem dX4_tempted_82 : decode cX4_tempted 82 = .ok (.goto (-54), 3) := by decide +kernel
theorem dX4_tempted_85 : decode cX4_tempted 85 = .ok (.iload_n 3, 1) := by decide +kernel
theorem dX4_tempted_86 : decode cX4_tempted 86 = .ok (.ireturn, 1) := by decide +kernel
theorem dX4_missed_0 : decode cX4_missed 0 = .ok (.aload_n 0, 1) := by decide +kernel
theorem dX4_missed_1 : decode cX4_missed 1 = .ok (.iload_n 1, 1) := by decide +kernel
theorem dX4_missed_2 : decode cX4_missed 2 = .ok (.bipush 60, 2) := by decide +kernel
theorem dX4_missed_4 : decode cX4_missed 4 = .ok (.invokevirtual 92, 3) := by decide +kernel
theorem dX4_missed_7 : decode cX4_missed 7 = .ok (.istore_n 2, 1) := by decide +kernel
theorem dX4_missed_8 : decode cX4_missed 8 = .ok (.iload_n 2, 1) := by decide +kernel
theorem dX4_missed_9 : decode cX4_missed 9 = .ok (.ifCond .ne 16, 3) := by decide +kernel
theorem dX4_missed_12 : decode cX4_missed 12 = .ok (.aload_n 0, 1) := by decide +kernel
theorem dX4_missed_13 : decode cX4_missed 13 = .ok (.getfield 12, 3) := by decide +kernel
theorem dX4_missed_16 : decode cX4_missed 16 = .ok (.getfield 57, 3) := by decide +kernel
theorem dX4_missed_19 : decode cX4_missed 19 = .ok (.ifCond .ne 6, 3) := by decide +kernel
theorem dX4_missed_22 : decode cX4_missed 22 = .ok (.ldc 137, 2) := by decide +kernel
theorem dX4_missed_24 : decode cX4_missed 24 = .ok (.istore_n 2, 1) := by decide +kernel
theorem dX4_missed_25 : decode cX4_missed 25 = .ok (.iload_n 2, 1) := by decide +kernel
theorem dX4_missed_26 : decode cX4_missed 26 = .ok (.ifCond .eq 9, 3) := by decide +kernel
theorem dX4_missed_29 : decode cX4_missed 29 = .ok (.aload_n 0, 1) := by decide +kernel
theorem dX4_missed_30 : decode cX4_missed 30 = .ok (.iload_n 2, 1) := by decide +kernel
theorem dX4_missed_31 : decode cX4_missed 31 = .ok (.invokevirtual 53, 3) := by decide +kernel
theorem dX4_missed_34 : decode cX4_missed 34 = .ok (.ireturn, 1) := by decide +kernel
theorem dX4_missed_35 : decode cX4_missed 35 = .ok (.aload_n 0, 1) := by decide +kernel
theorem dX4_missed_36 : decode cX4_missed 36 = .ok (.iload_n 1, 1) := by decide +kernel
theorem dX4_missed_37 : decode cX4_missed 37 = .ok (.invokevirtual 141, 3) := by decide +kernel
theorem dX4_missed_40 : decode cX4_missed 40 = .ok (.iconst 0, 1) := by decide +kernel
theorem dX4_missed_41 : decode cX4_missed 41 = .ok (.istore_n 3, 1) := by decide +kernel
theorem dX4_missed_42 : decode cX4_missed 42 = .ok (.aload_n 0, 1) := by decide +kernel
theorem dX4_missed_43 : decode cX4_missed 43 = .ok (.iconst 0, 1) := by decide +kernel
theorem dX4_missed_44 : decode cX4_missed 44 = .ok (.iload_n 1, 1) := by decide +kernel
theorem dX4_missed_45 : decode cX4_missed 45 = .ok (.invokevirtual 173, 3) := by decide +kernel
theorem dX4_missed_48 : decode cX4_missed 48 = .ok (.istore 4, 2) := by decide +kernel
theorem dX4_missed_50 : decode cX4_missed 50 = .ok (.iconst 1, 1) := by decide +kernel
theorem dX4_missed_51 : decode cX4_missed 51 = .ok (.istore 5, 2) := by decide +kernel
theorem dX4_missed_53 : decode cX4_missed 53 = .ok (.iload 5, 2) := by decide +kernel
theorem dX4_missed_55 : decode cX4_missed 55 = .ok (.aload_n 0, 1) := by decide +kernel
theorem dX4_missed_56 : decode cX4_missed 56 = .ok (.getfield 12, 3) := by decide +kernel
theorem dX4_missed_59 : decode cX4_missed 59 = .ok (.getfield 57, 3) := by decide +kernel
theorem dX4_missed_62 : decode cX4_missed 62 = .ok (.if_icmp .ge 32, 3) := by decide +kernel
theorem dX4_missed_65 : decode cX4_missed 65 = .ok (.aload_n 0, 1) := by decide +kernel
theorem dX4_missed_66 : decode cX4_missed 66 = .ok (.iload 5, 2) := by decide +kernel
theorem dX4_missed_68 : decode cX4_missed 68 = .ok (.iload_n 1, 1) := by decide +kernel
theorem dX4_missed_69 : decode cX4_missed 69 = .ok (.invokevirtual 173, 3) := by decide +kernel
theorem dX4_missed_72 : decode cX4_missed 72 = .ok (.istore 6, 2) := by decide +kernel
theorem dX4_missed_74 : decode cX4_missed 74 = .ok (.iload 6, 2) := by decide +kernel
theorem dX4_missed_76 : decode cX4_missed 76 = .ok (.iload 4, 2) := by decide +kernel
theorem dX4_missed_78 : decode cX4_missed 78 = .ok (.if_icmp .le 10, 3) := by decide +kernel
theorem dX4_missed_81 : decode cX4_missed 81 = .ok (.iload 6, 2) := by decide +kernel
theorem dX4_missed_83 : decode cX4_missed 83 = .ok (.istore 4, 2) := by decide +kernel
theorem dX4_missed_85 : decode cX4_missed 85 = .ok (.iload 5, 2) := by decide +kernel
theorem dX4_missed_87 : decode cX4_missed 87 = .ok (.istore_n 3, 1) := by decide +kernel
theorem dX4_missed_88 : decode cX4_missed 88 = .ok (.iinc 5 1, 3) := by decide +kernel
theorem dX4_missed_91 : decode cX4_missed 91 = .ok (.goto (-38), 3) := by decide +kernel
theorem dX4_missed_94 : decode cX4_missed 94 = .ok (.iload_n 3, 1) := by decide +kernel
theorem dX4_missed_95 : decode cX4_missed 95 = .ok (.ireturn, 1) := by decide +kernel
theorem dX4_takenByAbsence_0 : decode cX4_takenByAbsence 0 = .ok (.aload_n 0, 1) := by decide +kernel
theorem dX4_takenByAbsence_1 : decode cX4_takenByAbsence 1 = .ok (.iload_n 1, 1) := by decide +kernel
theorem dX4_takenByAbsence_2 : decode cX4_takenByAbsence 2 = .ok (.iconst 5, 1) := by decide +kernel
theorem dX4_takenByAbsence_3 : decode cX4_takenByAbsence 3 = .ok (.iconst 1, 1) := by decide +kernel
theorem dX4_takenByAbsence_4 : decode cX4_takenByAbsence 4 = .ok (.iload_n 2, 1) := by decide +kernel
theorem dX4_takenByAbsence_5 : decode cX4_takenByAbsence 5 = .ok (.invokevirtual 156, 3) := by decide +kernel
theorem dX4_takenByAbsence_8 : decode cX4_takenByAbsence 8 = .ok (.aload_n 0, 1) := by decide +kernel
theorem dX4_takenByAbsence_9 : decode cX4_takenByAbsence 9 = .ok (.getfield 19, 3) := by decide +kernel
theorem dX4_takenByAbsence_12 : decode cX4_takenByAbsence 12 = .ok (.aload_n 0, 1) := by decide +kernel
theorem dX4_takenByAbsence_13 : decode cX4_takenByAbsence 13 = .ok (.getfield 19, 3) := by decide +kernel
theorem dX4_takenByAbsence_16 : decode cX4_takenByAbsence 16 = .ok (.getfield 113, 3) := by decide +kernel
theorem dX4_takenByAbsence_19 : decode cX4_takenByAbsence 19 = .ok (.invokevirtual 109, 3) := by decide +kernel
theorem dX4_takenByAbsence_22 : decode cX4_takenByAbsence 22 = .ok (.aload_n 0, 1) := by decide +kernel
theorem dX4_takenByAbsence_23 : decode cX4_takenByAbsence 23 = .ok (.getfield 16, 3) := by decide +kernel
theorem dX4_takenByAbsence_26 : decode cX4_takenByAbsence 26 = .ok (.aload_n 0, 1) := by decide +kernel
theorem dX4_takenByAbsence_27 : decode cX4_takenByAbsence 27 = .ok (.getfield 16, 3) := by decide +kernel
theorem dX4_takenByAbsence_30 : decode cX4_takenByAbsence 30 = .ok (.getfield 113, 3) := by decide +kernel
theorem dX4_takenByAbsence_33 : decode cX4_takenByAbsence 33 = .ok (.invokevirtual 109, 3) := by decide +kernel
theorem dX4_takenByAbsence_36 : decode cX4_takenByAbsence 36 = .ok (.isub, 1) := by decide +kernel
theorem dX4_takenByAbsence_37 : decode cX4_takenByAbsence 37 = .ok (.istore_n 3, 1) := by decide +kernel
theorem dX4_takenByAbsence_38 : decode cX4_takenByAbsence 38 = .ok (.iload_n 3, 1) := by decide +kernel
theorem dX4_takenByAbsence_39 : decode cX4_takenByAbsence 39 = .ok (.aload_n 0, 1) := by decide +kernel
theorem dX4_takenByAbsence_40 : decode cX4_takenByAbsence 40 = .ok (.getfield 19, 3) := by decide +kernel
theorem dX4_takenByAbsence_43 : decode cX4_takenByAbsence 43 = .ok (.getfield 113, 3) := by decide +kernel
theorem dX4_takenByAbsence_46 : decode cX4_takenByAbsence 46 = .ok (.iload_n 1, 1) := by decide +kernel
theorem dX4_takenByAbsence_47 : decode cX4_takenByAbsence 47 = .ok (.iaload, 1) := by decide +kernel
theorem dX4_takenByAbsence_48 : decode cX4_takenByAbsence 48 = .ok (.aload_n 0, 1) := by decide +kernel
theorem dX4_takenByAbsence_49 : decode cX4_takenByAbsence 49 = .ok (.getfield 16, 3) := by decide +kernel
theorem dX4_takenByAbsence_52 : decode cX4_takenByAbsence 52 = .ok (.getfield 113, 3) := by decide +kernel
theorem dX4_takenByAbsence_55 : decode cX4_takenByAbsence 55 = .ok (.iload_n 1, 1) := by decide +kernel
theorem dX4_takenByAbsence_56 : decode cX4_takenByAbsence 56 = .ok (.iaload, 1) := by decide +kernel
theorem dX4_takenByAbsence_57 : decode cX4_takenByAbsence 57 = .ok (.isub, 1) := by decide +kernel
theorem dX4_takenByAbsence_58 : decode cX4_takenByAbsence 58 = .ok (.isub, 1) := by decide +kernel
theorem dX4_takenByAbsence_59 : decode cX4_takenByAbsence 59 = .ok (.ireturn, 1) := by decide +kernel
theorem dX4_warmest_0 : decode cX4_warmest 0 = .ok (.aload_n 0, 1) := by decide +kernel
theorem dX4_warmest_1 : decode cX4_warmest 1 = .ok (.iload_n 1, 1) := by decide +kernel
theorem dX4_warmest_2 : decode cX4_warmest 2 = .ok (.invokevirtual 176, 3) := by decide +kernel
theorem dX4_warmest_5 : decode cX4_warmest 5 = .ok (.istore_n 2, 1) := by decide +kernel
theorem dX4_warmest_6 : decode cX4_warmest 6 = .ok (.iload_n 2, 1) := by decide +kernel
theorem dX4_warmest_7 : decode cX4_warmest 7 = .ok (.ifCond .eq 9, 3) := by decide +kernel
theorem dX4_warmest_10 : decode cX4_warmest 10 = .ok (.aload_n 0, 1) := by decide +kernel
theorem dX4_warmest_11 : decode cX4_warmest 11 = .ok (.iload_n 2, 1) := by decide +kernel
theorem dX4_warmest_12 : decode cX4_warmest 12 = .ok (.invokevirtual 53, 3) := by decide +kernel
theorem dX4_warmest_15 : decode cX4_warmest 15 = .ok (.ireturn, 1) := by decide +kernel
theorem dX4_warmest_16 : decode cX4_warmest 16 = .ok (.aload_n 0, 1) := by decide +kernel
theorem dX4_warmest_17 : decode cX4_warmest 17 = .ok (.iload_n 1, 1) := by decide +kernel
theorem dX4_warmest_18 : decode cX4_warmest 18 = .ok (.invokevirtual 179, 3) := by decide +kernel
theorem dX4_warmest_21 : decode cX4_warmest 21 = .ok (.istore_n 3, 1) := by decide +kernel
theorem dX4_warmest_22 : decode cX4_warmest 22 = .ok (.iload_n 3, 1) := by decide +kernel
theorem dX4_warmest_23 : decode cX4_warmest 23 = .ok (.ldc 137, 2) := by decide +kernel
theorem dX4_warmest_25 : decode cX4_warmest 25 = .ok (.if_icmp .ne 11, 3) := by decide +kernel
theorem dX4_warmest_28 : decode cX4_warmest 28 = .ok (.aload_n 0, 1) := by decide +kernel
theorem dX4_warmest_29 : decode cX4_warmest 29 = .ok (.getfield 19, 3) := by decide +kernel
theorem dX4_warmest_32 : decode cX4_warmest 32 = .ok (.invokevirtual 123, 3) := by decide +kernel
theorem dX4_warmest_35 : decode cX4_warmest 35 = .ok (.ireturn, 1) := by decide +kernel
theorem dX4_warmest_36 : decode cX4_warmest 36 = .ok (.aload_n 0, 1) := by decide +kernel
theorem dX4_warmest_37 : decode cX4_warmest 37 = .ok (.iload_n 3, 1) := by decide +kernel
theorem dX4_warmest_38 : decode cX4_warmest 38 = .ok (.bipush 10, 2) := by decide +kernel
theorem dX4_warmest_40 : decode cX4_warmest 40 = .ok (.idiv, 1) := by decide +kernel
theorem dX4_warmest_41 : decode cX4_warmest 41 = .ok (.iload_n 3, 1) := by decide +kernel
theorem dX4_warmest_42 : decode cX4_warmest 42 = .ok (.bipush 10, 2) := by decide +kernel
theorem dX4_warmest_44 : decode cX4_warmest 44 = .ok (.irem, 1) := by decide +kernel
theorem dX4_warmest_45 : decode cX4_warmest 45 = .ok (.iload_n 1, 1) := by decide +kernel
theorem dX4_warmest_46 : decode cX4_warmest 46 = .ok (.invokevirtual 182, 3) := by decide +kernel
theorem dX4_warmest_49 : decode cX4_warmest 49 = .ok (.aload_n 0, 1) := by decide +kernel
theorem dX4_warmest_50 : decode cX4_warmest 50 = .ok (.getfield 16, 3) := by decide +kernel
theorem dX4_warmest_53 : decode cX4_warmest 53 = .ok (.invokevirtual 123, 3) := by decide +kernel
theorem dX4_warmest_56 : decode cX4_warmest 56 = .ok (.ireturn, 1) := by decide +kernel
theorem dX4_exchange_0 : decode cX4_exchange 0 = .ok (.aload_n 0, 1) := by decide +kernel
theorem dX4_exchange_1 : decode cX4_exchange 1 = .ok (.iload_n 1, 1) := by decide +kernel
theorem dX4_exchange_2 : decode cX4_exchange 2 = .ok (.invokevirtual 176, 3) := by decide +kernel
theorem dX4_exchange_5 : decode cX4_exchange 5 = .ok (.istore_n 2, 1) := by decide +kernel
theorem dX4_exchange_6 : decode cX4_exchange 6 = .ok (.iload_n 2, 1) := by decide +kernel
theorem dX4_exchange_7 : decode cX4_exchange 7 = .ok (.ifCond .eq 9, 3) := by decide +kernel
theorem dX4_exchange_10 : decode cX4_exchange 10 = .ok (.aload_n 0, 1) := by decide +kernel
theorem dX4_exchange_11 : decode cX4_exchange 11 = .ok (.iload_n 2, 1) := by decide +kernel
theorem dX4_exchange_12 : decode cX4_exchange 12 = .ok (.invokevirtual 53, 3) := by decide +kernel
theorem dX4_exchange_15 : decode cX4_exchange 15 = .ok (.ireturn, 1) := by decide +kernel
theorem dX4_exchange_16 : decode cX4_exchange 16 = .ok (.aload_n 0, 1) := by decide +kernel
theorem dX4_exchange_17 : decode cX4_exchange 17 = .ok (.iload_n 1, 1) := by decide +kernel
theorem dX4_exchange_18 : decode cX4_exchange 18 = .ok (.invokevirtual 179, 3) := by decide +kernel
theorem dX4_exchange_21 : decode cX4_exchange 21 = .ok (.istore_n 3, 1) := by decide +kernel
theorem dX4_exchange_22 : decode cX4_exchange 22 = .ok (.iload_n 3, 1) := by decide +kernel
theorem dX4_exchange_23 : decode cX4_exchange 23 = .ok (.ldc 137, 2) := by decide +kernel
theorem dX4_exchange_25 : decode cX4_exchange 25 = .ok (.if_icmp .ne 12, 3) := by decide +kernel
theorem dX4_exchange_28 : decode cX4_exchange 28 = .ok (.aload_n 0, 1) := by decide +kernel
theorem dX4_exchange_29 : decode cX4_exchange 29 = .ok (.ldc 137, 2) := by decide +kernel
theorem dX4_exchange_31 : decode cX4_exchange 31 = .ok (.invokevirtual 53, 3) := by decide +kernel
theorem dX4_exchange_34 : decode cX4_exchange 34 = .ok (.goto 4, 3) := by decide +kernel
theorem dX4_exchange_37 : decode cX4_exchange 37 = .ok (.iload_n 3, 1) := by decide +kernel
theorem dX4_exchange_38 : decode cX4_exchange 38 = .ok (.ireturn, 1) := by decide +kernel
theorem dX4_bestPair_0 : decode cX4_bestPair 0 = .ok (.ldc 137, 2) := by decide +kernel
theorem dX4_bestPair_2 : decode cX4_bestPair 2 = .ok (.istore_n 2, 1) := by decide +kernel
theorem dX4_bestPair_3 : decode cX4_bestPair 3 = .ok (.aload_n 0, 1) := by decide +kernel
theorem dX4_bestPair_4 : decode cX4_bestPair 4 = .ok (.iload_n 1, 1) := by decide +kernel
theorem dX4_bestPair_5 : decode cX4_bestPair 5 = .ok (.invokevirtual 141, 3) := by decide +kernel
theorem dX4_bestPair_8 : decode cX4_bestPair 8 = .ok (.aload_n 0, 1) := by decide +kernel
theorem dX4_bestPair_9 : decode cX4_bestPair 9 = .ok (.getfield 19, 3) := by decide +kernel
theorem dX4_bestPair_12 : decode cX4_bestPair 12 = .ok (.invokevirtual 123, 3) := by decide +kernel
theorem dX4_bestPair_15 : decode cX4_bestPair 15 = .ok (.istore_n 3, 1) := by decide +kernel
theorem dX4_bestPair_16 : decode cX4_bestPair 16 = .ok (.iconst 0, 1) := by decide +kernel
theorem dX4_bestPair_17 : decode cX4_bestPair 17 = .ok (.istore 4, 2) := by decide +kernel
theorem dX4_bestPair_19 : decode cX4_bestPair 19 = .ok (.iload 4, 2) := by decide +kernel
theorem dX4_bestPair_21 : decode cX4_bestPair 21 = .ok (.aload_n 0, 1) := by decide +kernel
theorem dX4_bestPair_22 : decode cX4_bestPair 22 = .ok (.getfield 12, 3) := by decide +kernel
theorem dX4_bestPair_25 : decode cX4_bestPair 25 = .ok (.getfield 57, 3) := by decide +kernel
theorem dX4_bestPair_28 : decode cX4_bestPair 28 = .ok (.if_icmp .ge 70, 3) := by decide +kernel
theorem dX4_bestPair_31 : decode cX4_bestPair 31 = .ok (.iload 4, 2) := by decide +kernel
theorem dX4_bestPair_33 : decode cX4_bestPair 33 = .ok (.iconst 1, 1) := by decide +kernel
theorem dX4_bestPair_34 : decode cX4_bestPair 34 = .ok (.iadd, 1) := by decide +kernel
theorem dX4_bestPair_35 : decode cX4_bestPair 35 = .ok (.istore 5, 2) := by decide +kernel
theorem dX4_bestPair_37 : decode cX4_bestPair 37 = .ok (.iload 5, 2) := by decide +kernel
theorem dX4_bestPair_39 : decode cX4_bestPair 39 = .ok (.aload_n 0, 1) := by decide +kernel
theorem dX4_bestPair_40 : decode cX4_bestPair 40 = .ok (.getfield 12, 3) := by decide +kernel
theorem dX4_bestPair_43 : decode cX4_bestPair 43 = .ok (.getfield 57, 3) := by decide +kernel
theorem dX4_bestPair_46 : decode cX4_bestPair 46 = .ok (.if_icmp .ge 46, 3) := by decide +kernel
theorem dX4_bestPair_49 : decode cX4_bestPair 49 = .ok (.aload_n 0, 1) := by decide +kernel
theorem dX4_bestPair_50 : decode cX4_bestPair 50 = .ok (.iload 4, 2) := by decide +kernel
theorem dX4_bestPair_52 : decode cX4_bestPair 52 = .ok (.iload 5, 2) := by decide +kernel
theorem dX4_bestPair_54 : decode cX4_bestPair 54 = .ok (.iload_n 1, 1) := by decide +kernel
theorem dX4_bestPair_55 : decode cX4_bestPair 55 = .ok (.invokevirtual 182, 3) := by decide +kernel
theorem dX4_bestPair_58 : decode cX4_bestPair 58 = .ok (.aload_n 0, 1) := by decide +kernel
theorem dX4_bestPair_59 : decode cX4_bestPair 59 = .ok (.getfield 16, 3) := by decide +kernel
theorem dX4_bestPair_62 : decode cX4_bestPair 62 = .ok (.invokevirtual 123, 3) := by decide +kernel
theorem dX4_bestPair_65 : decode cX4_bestPair 65 = .ok (.iload_n 3, 1) := by decide +kernel
theorem dX4_bestPair_66 : decode cX4_bestPair 66 = .ok (.if_icmp .le 20, 3) := by decide +kernel
theorem dX4_bestPair_69 : decode cX4_bestPair 69 = .ok (.aload_n 0, 1) := by decide +kernel
theorem dX4_bestPair_70 : decode cX4_bestPair 70 = .ok (.getfield 16, 3) := by decide +kernel
theorem dX4_bestPair_73 : decode cX4_bestPair 73 = .ok (.invokevirtual 123, 3) := by decide +kernel
theorem dX4_bestPair_76 : decode cX4_bestPair 76 = .ok (.istore_n 3, 1) := by decide +kernel
theorem dX4_bestPair_77 : decode cX4_bestPair 77 = .ok (.bipush 10, 2) := by decide +kernel
theorem dX4_bestPair_79 : decode cX4_bestPair 79 = .ok (.iload 4, 2) := by decide +kernel
theorem dX4_bestPair_81 : decode cX4_bestPair 81 = .ok (.imul, 1) := by decide +kernel
theorem dX4_bestPair_82 : decode cX4_bestPair 82 = .ok (.iload 5, 2) := by decide +kernel
theorem dX4_bestPair_84 : decode cX4_bestPair 84 = .ok (.iadd, 1) := by decide +kernel
theorem dX4_bestPair_85 : decode cX4_bestPair 85 = .ok (.istore_n 2, 1) := by decide +kernel
theorem dX4_bestPair_86 : decode cX4_bestPair 86 = .ok (.iinc 5 1, 3) := by decide +kernel
theorem dX4_bestPair_89 : decode cX4_bestPair 89 = .ok (.goto (-52), 3) := by decide +kernel
theorem dX4_bestPair_92 : decode cX4_bestPair 92 = .ok (.iinc 4 1, 3) := by decide +kernel
theorem dX4_bestPair_95 : decode cX4_bestPair 95 = .ok (.goto (-76), 3) := by decide +kernel
theorem dX4_bestPair_98 : decode cX4_bestPair 98 = .ok (.iload_n 2, 1) := by decide +kernel
theorem dX4_bestPair_99 : decode cX4_bestPair 99 = .ok (.ireturn, 1) := by decide +kernel
theorem dX4_deal_0 : decode cX4_deal 0 = .ok (.aload_n 0, 1) := by decide +kernel
theorem dX4_deal_1 : decode cX4_deal 1 = .ok (.iload_n 1, 1) := by decide +kernel
theorem dX4_deal_2 : decode cX4_deal 2 = .ok (.invokevirtual 176, 3) := by decide +kernel
theorem dX4_deal_5 : decode cX4_deal 5 = .ok (.istore_n 2, 1) := by decide +kernel
theorem dX4_deal_6 : decode cX4_deal 6 = .ok (.iload_n 2, 1) := by decide +kernel
theorem dX4_deal_7 : decode cX4_deal 7 = .ok (.ifCond .eq 9, 3) := by decide +kernel
theorem dX4_deal_10 : decode cX4_deal 10 = .ok (.aload_n 0, 1) := by decide +kernel
theorem dX4_deal_11 : decode cX4_deal 11 = .ok (.iload_n 2, 1) := by decide +kernel
theorem dX4_deal_12 : decode cX4_deal 12 = .ok (.invokevirtual 53, 3) := by decide +kernel
theorem dX4_deal_15 : decode cX4_deal 15 = .ok (.ireturn, 1) := by decide +kernel
theorem dX4_deal_16 : decode cX4_deal 16 = .ok (.aload_n 0, 1) := by decide +kernel
theorem dX4_deal_17 : decode cX4_deal 17 = .ok (.iload_n 1, 1) := by decide +kernel
theorem dX4_deal_18 : decode cX4_deal 18 = .ok (.invokevirtual 141, 3) := by decide +kernel
theorem dX4_deal_21 : decode cX4_deal 21 = .ok (.iconst 0, 1) := by decide +kernel
theorem dX4_deal_22 : decode cX4_deal 22 = .ok (.istore_n 3, 1) := by decide +kernel
theorem dX4_deal_23 : decode cX4_deal 23 = .ok (.iload_n 3, 1) := by decide +kernel
theorem dX4_deal_24 : decode cX4_deal 24 = .ok (.aload_n 0, 1) := by decide +kernel
theorem dX4_deal_25 : decode cX4_deal 25 = .ok (.getfield 12, 3) := by decide +kernel
theorem dX4_deal_28 : decode cX4_deal 28 = .ok (.getfield 57, 3) := by decide +kernel
theorem dX4_deal_31 : decode cX4_deal 31 = .ok (.if_icmp .ge 92, 3) := by decide +kernel
theorem dX4_deal_34 : decode cX4_deal 34 = .ok (.iload_n 3, 1) := by decide +kernel
theorem dX4_deal_35 : decode cX4_deal 35 = .ok (.iconst 1, 1) := by decide +kernel
theorem dX4_deal_36 : decode cX4_deal 36 = .ok (.iadd, 1) := by decide +kernel
theorem dX4_deal_37 : decode cX4_deal 37 = .ok (.istore 4, 2) := by decide +kernel
theorem dX4_deal_39 : decode cX4_deal 39 = .ok (.iload 4, 2) := by decide +kernel
theorem dX4_deal_41 : decode cX4_deal 41 = .ok (.aload_n 0, 1) := by decide +kernel
theorem dX4_deal_42 : decode cX4_deal 42 = .ok (.getfield 12, 3) := by decide +kernel
theorem dX4_deal_45 : decode cX4_deal 45 = .ok (.getfield 57, 3) := by decide +kernel
theorem dX4_deal_48 : decode cX4_deal 48 = .ok (.if_icmp .ge 69, 3) := by decide +kernel
theorem dX4_deal_51 : decode cX4_deal 51 = .ok (.aload_n 0, 1) := by decide +kernel
theorem dX4_deal_52 : decode cX4_deal 52 = .ok (.iload_n 3, 1) := by decide +kernel
theorem dX4_deal_53 : decode cX4_deal 53 = .ok (.iload 4, 2) := by decide +kernel
theorem dX4_deal_55 : decode cX4_deal 55 = .ok (.iload_n 1, 1) := by decide +kernel
theorem dX4_deal_56 : decode cX4_deal 56 = .ok (.invokevirtual 182, 3) := by decide +kernel
theorem dX4_deal_59 : decode cX4_deal 59 = .ok (.aload_n 0, 1) := by decide +kernel
theorem dX4_deal_60 : decode cX4_deal 60 = .ok (.getfield 16, 3) := by decide +kernel
theorem dX4_deal_63 : decode cX4_deal 63 = .ok (.getfield 113, 3) := by decide +kernel
theorem dX4_deal_66 : decode cX4_deal 66 = .ok (.iload 4, 2) := by decide +kernel
theorem dX4_deal_68 : decode cX4_deal 68 = .ok (.iaload, 1) := by decide +kernel
theorem dX4_deal_69 : decode cX4_deal 69 = .ok (.aload_n 0, 1) := by decide +kernel
theorem dX4_deal_70 : decode cX4_deal 70 = .ok (.getfield 19, 3) := by decide +kernel
theorem dX4_deal_73 : decode cX4_deal 73 = .ok (.getfield 113, 3) := by decide +kernel
theorem dX4_deal_76 : decode cX4_deal 76 = .ok (.iload_n 3, 1) := by decide +kernel
theorem dX4_deal_77 : decode cX4_deal 77 = .ok (.iaload, 1) := by decide +kernel
theorem dX4_deal_78 : decode cX4_deal 78 = .ok (.if_icmp .le 33, 3) := by decide +kernel
theorem dX4_deal_81 : decode cX4_deal 81 = .ok (.aload_n 0, 1) := by decide +kernel
theorem dX4_deal_82 : decode cX4_deal 82 = .ok (.getfield 16, 3) := by decide +kernel
theorem dX4_deal_85 : decode cX4_deal 85 = .ok (.getfield 113, 3) := by decide +kernel
theorem dX4_deal_88 : decode cX4_deal 88 = .ok (.iload_n 3, 1) := by decide +kernel
theorem dX4_deal_89 : decode cX4_deal 89 = .ok (.iaload, 1) := by decide +kernel
theorem dX4_deal_90 : decode cX4_deal 90 = .ok (.aload_n 0, 1) := by decide +kernel
theorem dX4_deal_91 : decode cX4_deal 91 = .ok (.getfield 19, 3) := by decide +kernel
theorem dX4_deal_94 : decode cX4_deal 94 = .ok (.getfield 113, 3) := by decide +kernel
theorem dX4_deal_97 : decode cX4_deal 97 = .ok (.iload 4, 2) := by decide +kernel
theorem dX4_deal_99 : decode cX4_deal 99 = .ok (.iaload, 1) := by decide +kernel
theorem dX4_deal_100 : decode cX4_deal 100 = .ok (.if_icmp .le 11, 3) := by decide +kernel
theorem dX4_deal_103 : decode cX4_deal 103 = .ok (.bipush 10, 2) := by decide +kernel
theorem dX4_deal_105 : decode cX4_deal 105 = .ok (.iload_n 3, 1) := by decide +kernel
theorem dX4_deal_106 : decode cX4_deal 106 = .ok (.imul, 1) := by decide +kernel
theorem dX4_deal_107 : decode cX4_deal 107 = .ok (.iload 4, 2) := by decide +kernel
theorem dX4_deal_109 : decode cX4_deal 109 = .ok (.iadd, 1) := by decide +kernel
theorem dX4_deal_110 : decode cX4_deal 110 = .ok (.ireturn, 1) := by decide +kernel
theorem dX4_deal_111 : decode cX4_deal 111 = .ok (.iinc 4 1, 3) := by decide +kernel
theorem dX4_deal_114 : decode cX4_deal 114 = .ok (.goto (-75), 3) := by decide +kernel
theorem dX4_deal_117 : decode cX4_deal 117 = .ok (.iinc 3 1, 3) := by decide +kernel
theorem dX4_deal_120 : decode cX4_deal 120 = .ok (.goto (-97), 3) := by decide +kernel
theorem dX4_deal_123 : decode cX4_deal 123 = .ok (.aload_n 0, 1) := by decide +kernel
theorem dX4_deal_124 : decode cX4_deal 124 = .ok (.ldc 137, 2) := by decide +kernel
theorem dX4_deal_126 : decode cX4_deal 126 = .ok (.invokevirtual 53, 3) := by decide +kernel
theorem dX4_deal_129 : decode cX4_deal 129 = .ok (.ireturn, 1) := by decide +kernel
theorem dX4_orders_0 : decode cX4_orders 0 = .ok (.iload_n 1, 1) := by decide +kernel
theorem dX4_orders_1 : decode cX4_orders 1 = .ok (.iconst 2, 1) := by decide +kernel
theorem dX4_orders_2 : decode cX4_orders 2 = .ok (.if_icmp .lt 19, 3) := by decide +kernel
theorem dX4_orders_5 : decode cX4_orders 5 = .ok (.iload_n 1, 1) := by decide +kernel
theorem dX4_orders_6 : decode cX4_orders 6 = .ok (.iconst 5, 1) := by decide +kernel
theorem dX4_orders_7 : decode cX4_orders 7 = .ok (.if_icmp .gt 14, 3) := by decide +kernel
theorem dX4_orders_10 : decode cX4_orders 10 = .ok (.iload_n 1, 1) := by decide +kernel
theorem dX4_orders_11 : decode cX4_orders 11 = .ok (.aload_n 0, 1) := by decide +kernel
theorem dX4_orders_12 : decode cX4_orders 12 = .ok (.getfield 12, 3) := by decide +kernel
theorem dX4_orders_15 : decode cX4_orders 15 = .ok (.getfield 57, 3) := by decide +kernel
theorem dX4_orders_18 : decode cX4_orders 18 = .ok (.if_icmp .le 10, 3) := by decide +kernel
theorem dX4_orders_21 : decode cX4_orders 21 = .ok (.aload_n 0, 1) := by decide +kernel
theorem dX4_orders_22 : decode cX4_orders 22 = .ok (.ldc 52, 2) := by decide +kernel
theorem dX4_orders_24 : decode cX4_orders 24 = .ok (.invokevirtual 53, 3) := by decide +kernel
theorem dX4_orders_27 : decode cX4_orders 27 = .ok (.ireturn, 1) := by decide +kernel
theorem dX4_orders_28 : decode cX4_orders 28 = .ok (.aload_n 0, 1) := by decide +kernel
theorem dX4_orders_29 : decode cX4_orders 29 = .ok (.iload_n 2, 1) := by decide +kernel
theorem dX4_orders_30 : decode cX4_orders 30 = .ok (.bipush 24, 2) := by decide +kernel
theorem dX4_orders_32 : decode cX4_orders 32 = .ok (.invokevirtual 92, 3) := by decide +kernel
theorem dX4_orders_35 : decode cX4_orders 35 = .ok (.istore_n 3, 1) := by decide +kernel
theorem dX4_orders_36 : decode cX4_orders 36 = .ok (.iload_n 3, 1) := by decide +kernel
theorem dX4_orders_37 : decode cX4_orders 37 = .ok (.ifCond .eq 9, 3) := by decide +kernel
theorem dX4_orders_40 : decode cX4_orders 40 = .ok (.aload_n 0, 1) := by decide +kernel
theorem dX4_orders_41 : decode cX4_orders 41 = .ok (.iload_n 3, 1) := by decide +kernel
theorem dX4_orders_42 : decode cX4_orders 42 = .ok (.invokevirtual 53, 3) := by decide +kernel
theorem dX4_orders_45 : decode cX4_orders 45 = .ok (.ireturn, 1) := by decide +kernel
theorem dX4_orders_46 : decode cX4_orders 46 = .ok (.iconst 1, 1) := by decide +kernel
theorem dX4_orders_47 : decode cX4_orders 47 = .ok (.istore 4, 2) := by decide +kernel
theorem dX4_orders_49 : decode cX4_orders 49 = .ok (.iconst 2, 1) := by decide +kernel
theorem dX4_orders_50 : decode cX4_orders 50 = .ok (.istore 5, 2) := by decide +kernel
theorem dX4_orders_52 : decode cX4_orders 52 = .ok (.iload 5, 2) := by decide +kernel
theorem dX4_orders_54 : decode cX4_orders 54 = .ok (.iload_n 1, 1) := by decide +kernel
theorem dX4_orders_55 : decode cX4_orders 55 = .ok (.if_icmp .gt 16, 3) := by decide +kernel
theorem dX4_orders_58 : decode cX4_orders 58 = .ok (.iload 4, 2) := by decide +kernel
theorem dX4_orders_60 : decode cX4_orders 60 = .ok (.iload 5, 2) := by decide +kernel
theorem dX4_orders_62 : decode cX4_orders 62 = .ok (.imul, 1) := by decide +kernel
theorem dX4_orders_63 : decode cX4_orders 63 = .ok (.istore 4, 2) := by decide +kernel
theorem dX4_orders_65 : decode cX4_orders 65 = .ok (.iinc 5 1, 3) := by decide +kernel
theorem dX4_orders_68 : decode cX4_orders 68 = .ok (.goto (-16), 3) := by decide +kernel
theorem dX4_orders_71 : decode cX4_orders 71 = .ok (.iconst 0, 1) := by decide +kernel
theorem dX4_orders_72 : decode cX4_orders 72 = .ok (.istore 5, 2) := by decide +kernel
theorem dX4_orders_74 : decode cX4_orders 74 = .ok (.iconst 0, 1) := by decide +kernel
theorem dX4_orders_75 : decode cX4_orders 75 = .ok (.istore 6, 2) := by decide +kernel
theorem dX4_orders_77 : decode cX4_orders 77 = .ok (.iload 6, 2) := by decide +kernel
theorem dX4_orders_79 : decode cX4_orders 79 = .ok (.iload 4, 2) := by decide +kernel
theorem dX4_orders_81 : decode cX4_orders 81 = .ok (.if_icmp .ge 42, 3) := by decide +kernel
theorem dX4_orders_84 : decode cX4_orders 84 = .ok (.aload_n 0, 1) := by decide +kernel
theorem dX4_orders_85 : decode cX4_orders 85 = .ok (.invokevirtual 120, 3) := by decide +kernel
theorem dX4_orders_88 : decode cX4_orders 88 = .ok (.aload_n 0, 1) := by decide +kernel
theorem dX4_orders_89 : decode cX4_orders 89 = .ok (.iload_n 1, 1) := by decide +kernel
theorem dX4_orders_90 : decode cX4_orders 90 = .ok (.iload 6, 2) := by decide +kernel
theorem dX4_orders_92 : decode cX4_orders 92 = .ok (.invokevirtual 186, 3) := by decide +kernel
theorem dX4_orders_95 : decode cX4_orders 95 = .ok (.aload_n 0, 1) := by decide +kernel
theorem dX4_orders_96 : decode cX4_orders 96 = .ok (.getfield 16, 3) := by decide +kernel
theorem dX4_orders_99 : decode cX4_orders 99 = .ok (.iload_n 2, 1) := by decide +kernel
theorem dX4_orders_100 : decode cX4_orders 100 = .ok (.invokevirtual 96, 3) := by decide +kernel
theorem dX4_orders_103 : decode cX4_orders 103 = .ok (.pop, 1) := by decide +kernel
theorem dX4_orders_104 : decode cX4_orders 104 = .ok (.aload_n 0, 1) := by decide +kernel
theorem dX4_orders_105 : decode cX4_orders 105 = .ok (.getfield 16, 3) := by decide +kernel
theorem dX4_orders_108 : decode cX4_orders 108 = .ok (.invokevirtual 102, 3) := by decide +kernel
theorem dX4_orders_111 : decode cX4_orders 111 = .ok (.ifCond .ne 6, 3) := by decide +kernel
theorem dX4_orders_114 : decode cX4_orders 114 = .ok (.iinc 5 1, 3) := by decide +kernel
theorem dX4_orders_117 : decode cX4_orders 117 = .ok (.iinc 6 1, 3) := by decide +kernel
theorem dX4_orders_120 : decode cX4_orders 120 = .ok (.goto (-43), 3) := by decide +kernel
theorem dX4_orders_123 : decode cX4_orders 123 = .ok (.iload 5, 2) := by decide +kernel
theorem dX4_orders_125 : decode cX4_orders 125 = .ok (.ireturn, 1) := by decide +kernel
theorem dX4_dealKinds_0 : decode cX4_dealKinds 0 = .ok (.iconst 1, 1) := by decide +kernel
theorem dX4_dealKinds_1 : decode cX4_dealKinds 1 = .ok (.iload_n 1, 1) := by decide +kernel
theorem dX4_dealKinds_2 : decode cX4_dealKinds 2 = .ok (.ishl, 1) := by decide +kernel
theorem dX4_dealKinds_3 : decode cX4_dealKinds 3 = .ok (.iconst 1, 1) := by decide +kernel
theorem dX4_dealKinds_4 : decode cX4_dealKinds 4 = .ok (.isub, 1) := by decide +kernel
theorem dX4_dealKinds_5 : decode cX4_dealKinds 5 = .ok (.istore_n 3, 1) := by decide +kernel
theorem dX4_dealKinds_6 : decode cX4_dealKinds 6 = .ok (.iload_n 2, 1) := by decide +kernel
theorem dX4_dealKinds_7 : decode cX4_dealKinds 7 = .ok (.istore 4, 2) := by decide +kernel
theorem dX4_dealKinds_9 : decode cX4_dealKinds 9 = .ok (.iconst 0, 1) := by decide +kernel
theorem dX4_dealKinds_10 : decode cX4_dealKinds 10 = .ok (.istore 5, 2) := by decide +kernel
theorem dX4_dealKinds_12 : decode cX4_dealKinds 12 = .ok (.iload 5, 2) := by decide +kernel
theorem dX4_dealKinds_14 : decode cX4_dealKinds 14 = .ok (.iload_n 1, 1) := by decide +kernel
theorem dX4_dealKinds_15 : decode cX4_dealKinds 15 = .ok (.if_icmp .ge 62, 3) := by decide +kernel
theorem dX4_dealKinds_18 : decode cX4_dealKinds 18 = .ok (.iload_n 1, 1) := by decide +kernel
theorem dX4_dealKinds_19 : decode cX4_dealKinds 19 = .ok (.iload 5, 2) := by decide +kernel
theorem dX4_dealKinds_21 : decode cX4_dealKinds 21 = .ok (.isub, 1) := by decide +kernel
theorem dX4_dealKinds_22 : decode cX4_dealKinds 22 = .ok (.istore 6, 2) := by decide +kernel
theorem dX4_dealKinds_24 : decode cX4_dealKinds 24 = .ok (.iload_n 3, 1) := by decide +kernel
theorem dX4_dealKinds_25 : decode cX4_dealKinds 25 = .ok (.iload 4, 2) := by decide +kernel
theorem dX4_dealKinds_27 : decode cX4_dealKinds 27 = .ok (.iload 6, 2) := by decide +kernel
theorem dX4_dealKinds_29 : decode cX4_dealKinds 29 = .ok (.irem, 1) := by decide +kernel
theorem dX4_dealKinds_30 : decode cX4_dealKinds 30 = .ok (.invokestatic 189, 3) := by decide +kernel
theorem dX4_dealKinds_33 : decode cX4_dealKinds 33 = .ok (.istore 7, 2) := by decide +kernel
theorem dX4_dealKinds_35 : decode cX4_dealKinds 35 = .ok (.iload 4, 2) := by decide +kernel
theorem dX4_dealKinds_37 : decode cX4_dealKinds 37 = .ok (.iload 6, 2) := by decide +kernel
theorem dX4_dealKinds_39 : decode cX4_dealKinds 39 = .ok (.idiv, 1) := by decide +kernel
theorem dX4_dealKinds_40 : decode cX4_dealKinds 40 = .ok (.istore 4, 2) := by decide +kernel
theorem dX4_dealKinds_42 : decode cX4_dealKinds 42 = .ok (.iload_n 3, 1) := by decide +kernel
theorem dX4_dealKinds_43 : decode cX4_dealKinds 43 = .ok (.iconst 1, 1) := by decide +kernel
theorem dX4_dealKinds_44 : decode cX4_dealKinds 44 = .ok (.iload 7, 2) := by decide +kernel
theorem dX4_dealKinds_46 : decode cX4_dealKinds 46 = .ok (.ishl, 1) := by decide +kernel
theorem dX4_dealKinds_47 : decode cX4_dealKinds 47 = .ok (.iconst (-1), 1) := by decide +kernel
theorem dX4_dealKinds_48 : decode cX4_dealKinds 48 = .ok (.ixor, 1) := by decide +kernel
theorem dX4_dealKinds_49 : decode cX4_dealKinds 49 = .ok (.iand, 1) := by decide +kernel
theorem dX4_dealKinds_50 : decode cX4_dealKinds 50 = .ok (.istore_n 3, 1) := by decide +kernel
theorem dX4_dealKinds_51 : decode cX4_dealKinds 51 = .ok (.aload_n 0, 1) := by decide +kernel
theorem dX4_dealKinds_52 : decode cX4_dealKinds 52 = .ok (.getfield 16, 3) := by decide +kernel
theorem dX4_dealKinds_55 : decode cX4_dealKinds 55 = .ok (.getfield 192, 3) := by decide +kernel
theorem dX4_dealKinds_58 : decode cX4_dealKinds 58 = .ok (.iload 5, 2) := by decide +kernel
theorem dX4_dealKinds_60 : decode cX4_dealKinds 60 = .ok (.aload_n 0, 1) := by decide +kernel
theorem dX4_dealKinds_61 : decode cX4_dealKinds 61 = .ok (.getfield 12, 3) := by decide +kernel
theorem dX4_dealKinds_64 : decode cX4_dealKinds 64 = .ok (.getfield 192, 3) := by decide +kernel
theorem dX4_dealKinds_67 : decode cX4_dealKinds 67 = .ok (.iload 7, 2) := by decide +kernel
theorem dX4_dealKinds_69 : decode cX4_dealKinds 69 = .ok (.iaload, 1) := by decide +kernel
theorem dX4_dealKinds_70 : decode cX4_dealKinds 70 = .ok (.iastore, 1) := by decide +kernel
theorem dX4_dealKinds_71 : decode cX4_dealKinds 71 = .ok (.iinc 5 1, 3) := by decide +kernel
theorem dX4_dealKinds_74 : decode cX4_dealKinds 74 = .ok (.goto (-62), 3) := by decide +kernel
theorem dX4_dealKinds_77 : decode cX4_dealKinds 77 = .ok (.return_, 1) := by decide +kernel
theorem dX4_memberOf_0 : decode cX4_memberOf 0 = .ok (.iconst 0, 1) := by decide +kernel
theorem dX4_memberOf_1 : decode cX4_memberOf 1 = .ok (.istore_n 2, 1) := by decide +kernel
theorem dX4_memberOf_2 : decode cX4_memberOf 2 = .ok (.iconst 0, 1) := by decide +kernel
theorem dX4_memberOf_3 : decode cX4_memberOf 3 = .ok (.istore_n 3, 1) := by decide +kernel
theorem dX4_memberOf_4 : decode cX4_memberOf 4 = .ok (.iload_n 3, 1) := by decide +kernel
theorem dX4_memberOf_5 : decode cX4_memberOf 5 = .ok (.bipush 8, 2) := by decide +kernel
theorem dX4_memberOf_7 : decode cX4_memberOf 7 = .ok (.if_icmp .ge 28, 3) := by decide +kernel
theorem dX4_memberOf_10 : decode cX4_memberOf 10 = .ok (.iload_n 0, 1) := by decide +kernel
theorem dX4_memberOf_11 : decode cX4_memberOf 11 = .ok (.iload_n 3, 1) := by decide +kernel
theorem dX4_memberOf_12 : decode cX4_memberOf 12 = .ok (.ishr, 1) := by decide +kernel
theorem dX4_memberOf_13 : decode cX4_memberOf 13 = .ok (.iconst 1, 1) := by decide +kernel
theorem dX4_memberOf_14 : decode cX4_memberOf 14 = .ok (.iand, 1) := by decide +kernel
theorem dX4_memberOf_15 : decode cX4_memberOf 15 = .ok (.iconst 1, 1) := by decide +kernel
theorem dX4_memberOf_16 : decode cX4_memberOf 16 = .ok (.if_icmp .ne 13, 3) := by decide +kernel
theorem dX4_memberOf_19 : decode cX4_memberOf 19 = .ok (.iload_n 2, 1) := by decide +kernel
theorem dX4_memberOf_20 : decode cX4_memberOf 20 = .ok (.iload_n 1, 1) := by decide +kernel
theorem dX4_memberOf_21 : decode cX4_memberOf 21 = .ok (.if_icmp .ne 5, 3) := by decide +kernel
theorem dX4_memberOf_24 : decode cX4_memberOf 24 = .ok (.iload_n 3, 1) := by decide +kernel
theorem dX4_memberOf_25 : decode cX4_memberOf 25 = .ok (.ireturn, 1) := by decide +kernel
theorem dX4_memberOf_26 : decode cX4_memberOf 26 = .ok (.iinc 2 1, 3) := by decide +kernel
theorem dX4_memberOf_29 : decode cX4_memberOf 29 = .ok (.iinc 3 1, 3) := by decide +kernel
theorem dX4_memberOf_32 : decode cX4_memberOf 32 = .ok (.goto (-28), 3) := by decide +kernel
theorem dX4_memberOf_35 : decode cX4_memberOf 35 = .ok (.iconst 0, 1) := by decide +kernel
theorem dX4_memberOf_36 : decode cX4_memberOf 36 = .ok (.ireturn, 1) := by decide +kernel
theorem dX4_coal_0 : decode cX4_coal 0 = .ok (.aload_n 0, 1) := by decide +kernel
theorem dX4_coal_1 : decode cX4_coal 1 = .ok (.iload_n 1, 1) := by decide +kernel
theorem dX4_coal_2 : decode cX4_coal 2 = .ok (.iload_n 2, 1) := by decide +kernel
theorem dX4_coal_3 : decode cX4_coal 3 = .ok (.invokevirtual 153, 3) := by decide +kernel
theorem dX4_coal_6 : decode cX4_coal 6 = .ok (.istore_n 3, 1) := by decide +kernel
theorem dX4_coal_7 : decode cX4_coal 7 = .ok (.iload_n 3, 1) := by decide +kernel
theorem dX4_coal_8 : decode cX4_coal 8 = .ok (.ifCond .ne 25, 3) := by decide +kernel
theorem dX4_coal_11 : decode cX4_coal 11 = .ok (.aload_n 0, 1) := by decide +kernel
theorem dX4_coal_12 : decode cX4_coal 12 = .ok (.getfield 12, 3) := by decide +kernel
theorem dX4_coal_15 : decode cX4_coal 15 = .ok (.aload_n 0, 1) := by decide +kernel
theorem dX4_coal_16 : decode cX4_coal 16 = .ok (.getfield 12, 3) := by decide +kernel
theorem dX4_coal_19 : decode cX4_coal 19 = .ok (.getfield 195, 3) := by decide +kernel
theorem dX4_coal_22 : decode cX4_coal 22 = .ok (.iload_n 1, 1) := by decide +kernel
theorem dX4_coal_23 : decode cX4_coal 23 = .ok (.iaload, 1) := by decide +kernel
theorem dX4_coal_24 : decode cX4_coal 24 = .ok (.invokevirtual 65, 3) := by decide +kernel
theorem dX4_coal_27 : decode cX4_coal 27 = .ok (.ifCond .ne 6, 3) := by decide +kernel
theorem dX4_coal_30 : decode cX4_coal 30 = .ok (.ldc 119, 2) := by decide +kernel
theorem dX4_coal_32 : decode cX4_coal 32 = .ok (.istore_n 3, 1) := by decide +kernel
theorem dX4_coal_33 : decode cX4_coal 33 = .ok (.iload_n 3, 1) := by decide +kernel
theorem dX4_coal_34 : decode cX4_coal 34 = .ok (.ifCond .eq 9, 3) := by decide +kernel
theorem dX4_coal_37 : decode cX4_coal 37 = .ok (.aload_n 0, 1) := by decide +kernel
theorem dX4_coal_38 : decode cX4_coal 38 = .ok (.iload_n 3, 1) := by decide +kernel
theorem dX4_coal_39 : decode cX4_coal 39 = .ok (.invokevirtual 53, 3) := by decide +kernel
theorem dX4_coal_42 : decode cX4_coal 42 = .ok (.ireturn, 1) := by decide +kernel
theorem dX4_coal_43 : decode cX4_coal 43 = .ok (.iconst 0, 1) := by decide +kernel
theorem dX4_coal_44 : decode cX4_coal 44 = .ok (.istore 4, 2) := by decide +kernel
theorem dX4_coal_46 : decode cX4_coal 46 = .ok (.iload 4, 2) := by decide +kernel
theorem dX4_coal_48 : decode cX4_coal 48 = .ok (.iconst 3, 1) := by decide +kernel
theorem dX4_coal_49 : decode cX4_coal 49 = .ok (.iload_n 2, 1) := by decide +kernel
theorem dX4_coal_50 : decode cX4_coal 50 = .ok (.imul, 1) := by decide +kernel
theorem dX4_coal_51 : decode cX4_coal 51 = .ok (.if_icmp .gt 43, 3) := by decide +kernel
theorem dX4_coal_54 : decode cX4_coal 54 = .ok (.aload_n 0, 1) := by decide +kernel
theorem dX4_coal_55 : decode cX4_coal 55 = .ok (.iload_n 1, 1) := by decide +kernel
theorem dX4_coal_56 : decode cX4_coal 56 = .ok (.iconst 2, 1) := by decide +kernel
theorem dX4_coal_57 : decode cX4_coal 57 = .ok (.iload 4, 2) := by decide +kernel
theorem dX4_coal_59 : decode cX4_coal 59 = .ok (.iload_n 2, 1) := by decide +kernel
theorem dX4_coal_60 : decode cX4_coal 60 = .ok (.invokevirtual 156, 3) := by decide +kernel
theorem dX4_coal_63 : decode cX4_coal 63 = .ok (.aload_n 0, 1) := by decide +kernel
theorem dX4_coal_64 : decode cX4_coal 64 = .ok (.getfield 16, 3) := by decide +kernel
theorem dX4_coal_67 : decode cX4_coal 67 = .ok (.getfield 113, 3) := by decide +kernel
theorem dX4_coal_70 : decode cX4_coal 70 = .ok (.aload_n 0, 1) := by decide +kernel
theorem dX4_coal_71 : decode cX4_coal 71 = .ok (.getfield 12, 3) := by decide +kernel
theorem dX4_coal_74 : decode cX4_coal 74 = .ok (.getfield 195, 3) := by decide +kernel
theorem dX4_coal_77 : decode cX4_coal 77 = .ok (.iload_n 1, 1) := by decide +kernel
theorem dX4_coal_78 : decode cX4_coal 78 = .ok (.iaload, 1) := by decide +kernel
theorem dX4_coal_79 : decode cX4_coal 79 = .ok (.iaload, 1) := by decide +kernel
theorem dX4_coal_80 : decode cX4_coal 80 = .ok (.bipush 60, 2) := by decide +kernel
theorem dX4_coal_82 : decode cX4_coal 82 = .ok (.if_icmp .lt 6, 3) := by decide +kernel
theorem dX4_coal_85 : decode cX4_coal 85 = .ok (.iload 4, 2) := by decide +kernel
theorem dX4_coal_87 : decode cX4_coal 87 = .ok (.ireturn, 1) := by decide +kernel
theorem dX4_coal_88 : decode cX4_coal 88 = .ok (.iinc 4 1, 3) := by decide +kernel
theorem dX4_coal_91 : decode cX4_coal 91 = .ok (.goto (-45), 3) := by decide +kernel
theorem dX4_coal_94 : decode cX4_coal 94 = .ok (.aload_n 0, 1) := by decide +kernel
theorem dX4_coal_95 : decode cX4_coal 95 = .ok (.ldc 137, 2) := by decide +kernel
theorem dX4_coal_97 : decode cX4_coal 97 = .ok (.invokevirtual 53, 3) := by decide +kernel
theorem dX4_coal_100 : decode cX4_coal 100 = .ok (.ireturn, 1) := by decide +kernel
theorem dX4_wall_0 : decode cX4_wall 0 = .ok (.aload_n 0, 1) := by decide +kernel
theorem dX4_wall_1 : decode cX4_wall 1 = .ok (.iload_n 1, 1) := by decide +kernel
theorem dX4_wall_2 : decode cX4_wall 2 = .ok (.iload_n 2, 1) := by decide +kernel
theorem dX4_wall_3 : decode cX4_wall 3 = .ok (.invokevirtual 153, 3) := by decide +kernel
theorem dX4_wall_6 : decode cX4_wall 6 = .ok (.istore_n 3, 1) := by decide +kernel
theorem dX4_wall_7 : decode cX4_wall 7 = .ok (.iload_n 3, 1) := by decide +kernel
theorem dX4_wall_8 : decode cX4_wall 8 = .ok (.ifCond .eq 9, 3) := by decide +kernel
theorem dX4_wall_11 : decode cX4_wall 11 = .ok (.aload_n 0, 1) := by decide +kernel
theorem dX4_wall_12 : decode cX4_wall 12 = .ok (.iload_n 3, 1) := by decide +kernel
theorem dX4_wall_13 : decode cX4_wall 13 = .ok (.invokevirtual 53, 3) := by decide +kernel
theorem dX4_wall_16 : decode cX4_wall 16 = .ok (.ireturn, 1) := by decide +kernel
theorem dX4_wall_17 : decode cX4_wall 17 = .ok (.getstatic 167, 3) := by decide +kernel
theorem dX4_wall_20 : decode cX4_wall 20 = .ok (.iconst 3, 1) := by decide +kernel
theorem dX4_wall_21 : decode cX4_wall 21 = .ok (.iaload, 1) := by decide +kernel
theorem dX4_wall_22 : decode cX4_wall 22 = .ok (.istore 4, 2) := by decide +kernel
theorem dX4_wall_24 : decode cX4_wall 24 = .ok (.iload 4, 2) := by decide +kernel
theorem dX4_wall_26 : decode cX4_wall 26 = .ok (.getstatic 170, 3) := by decide +kernel
theorem dX4_wall_29 : decode cX4_wall 29 = .ok (.iconst 3, 1) := by decide +kernel
theorem dX4_wall_30 : decode cX4_wall 30 = .ok (.iaload, 1) := by decide +kernel
theorem dX4_wall_31 : decode cX4_wall 31 = .ok (.if_icmp .gt 35, 3) := by decide +kernel
theorem dX4_wall_34 : decode cX4_wall 34 = .ok (.aload_n 0, 1) := by decide +kernel
theorem dX4_wall_35 : decode cX4_wall 35 = .ok (.iload_n 1, 1) := by decide +kernel
theorem dX4_wall_36 : decode cX4_wall 36 = .ok (.iconst 3, 1) := by decide +kernel
theorem dX4_wall_37 : decode cX4_wall 37 = .ok (.iload 4, 2) := by decide +kernel
theorem dX4_wall_39 : decode cX4_wall 39 = .ok (.iload_n 2, 1) := by decide +kernel
theorem dX4_wall_40 : decode cX4_wall 40 = .ok (.invokevirtual 156, 3) := by decide +kernel
theorem dX4_wall_43 : decode cX4_wall 43 = .ok (.aload_n 0, 1) := by decide +kernel
theorem dX4_wall_44 : decode cX4_wall 44 = .ok (.getfield 16, 3) := by decide +kernel
theorem dX4_wall_47 : decode cX4_wall 47 = .ok (.getfield 113, 3) := by decide +kernel
theorem dX4_wall_50 : decode cX4_wall 50 = .ok (.iload_n 1, 1) := by decide +kernel
theorem dX4_wall_51 : decode cX4_wall 51 = .ok (.iaload, 1) := by decide +kernel
theorem dX4_wall_52 : decode cX4_wall 52 = .ok (.bipush 60, 2) := by decide +kernel
theorem dX4_wall_54 : decode cX4_wall 54 = .ok (.if_icmp .lt 6, 3) := by decide +kernel
theorem dX4_wall_57 : decode cX4_wall 57 = .ok (.iload 4, 2) := by decide +kernel
theorem dX4_wall_59 : decode cX4_wall 59 = .ok (.ireturn, 1) := by decide +kernel
theorem dX4_wall_60 : decode cX4_wall 60 = .ok (.iinc 4 1, 3) := by decide +kernel
theorem dX4_wall_63 : decode cX4_wall 63 = .ok (.goto (-39), 3) := by decide +kernel
theorem dX4_wall_66 : decode cX4_wall 66 = .ok (.aload_n 0, 1) := by decide +kernel
theorem dX4_wall_67 : decode cX4_wall 67 = .ok (.ldc 137, 2) := by decide +kernel
theorem dX4_wall_69 : decode cX4_wall 69 = .ok (.invokevirtual 53, 3) := by decide +kernel
theorem dX4_wall_72 : decode cX4_wall 72 = .ok (.ireturn, 1) := by decide +kernel
theorem dX4_turn_0 : decode cX4_turn 0 = .ok (.aload_n 0, 1) := by decide +kernel
theorem dX4_turn_1 : decode cX4_turn 1 = .ok (.iload_n 1, 1) := by decide +kernel
theorem dX4_turn_2 : decode cX4_turn 2 = .ok (.iload_n 2, 1) := by decide +kernel
theorem dX4_turn_3 : decode cX4_turn 3 = .ok (.invokevirtual 153, 3) := by decide +kernel
theorem dX4_turn_6 : decode cX4_turn 6 = .ok (.istore_n 3, 1) := by decide +kernel
theorem dX4_turn_7 : decode cX4_turn 7 = .ok (.iload_n 3, 1) := by decide +kernel
theorem dX4_turn_8 : decode cX4_turn 8 = .ok (.ifCond .ne 17, 3) := by decide +kernel
theorem dX4_turn_11 : decode cX4_turn 11 = .ok (.aload_n 0, 1) := by decide +kernel
theorem dX4_turn_12 : decode cX4_turn 12 = .ok (.getfield 12, 3) := by decide +kernel
theorem dX4_turn_15 : decode cX4_turn 15 = .ok (.getfield 57, 3) := by decide +kernel
theorem dX4_turn_18 : decode cX4_turn 18 = .ok (.iconst 1, 1) := by decide +kernel
theorem dX4_turn_19 : decode cX4_turn 19 = .ok (.if_icmp .ne 6, 3) := by decide +kernel
theorem dX4_turn_22 : decode cX4_turn 22 = .ok (.ldc 119, 2) := by decide +kernel
theorem dX4_turn_24 : decode cX4_turn 24 = .ok (.istore_n 3, 1) := by decide +kernel
theorem dX4_turn_25 : decode cX4_turn 25 = .ok (.iload_n 3, 1) := by decide +kernel
theorem dX4_turn_26 : decode cX4_turn 26 = .ok (.ifCond .eq 9, 3) := by decide +kernel
theorem dX4_turn_29 : decode cX4_turn 29 = .ok (.aload_n 0, 1) := by decide +kernel
theorem dX4_turn_30 : decode cX4_turn 30 = .ok (.iload_n 3, 1) := by decide +kernel
theorem dX4_turn_31 : decode cX4_turn 31 = .ok (.invokevirtual 53, 3) := by decide +kernel
theorem dX4_turn_34 : decode cX4_turn 34 = .ok (.ireturn, 1) := by decide +kernel
theorem dX4_turn_35 : decode cX4_turn 35 = .ok (.iconst 0, 1) := by decide +kernel
theorem dX4_turn_36 : decode cX4_turn 36 = .ok (.istore 4, 2) := by decide +kernel
theorem dX4_turn_38 : decode cX4_turn 38 = .ok (.iconst (-1), 1) := by decide +kernel
theorem dX4_turn_39 : decode cX4_turn 39 = .ok (.istore 5, 2) := by decide +kernel
theorem dX4_turn_41 : decode cX4_turn 41 = .ok (.iconst 0, 1) := by decide +kernel
theorem dX4_turn_42 : decode cX4_turn 42 = .ok (.istore 6, 2) := by decide +kernel
theorem dX4_turn_44 : decode cX4_turn 44 = .ok (.iload 6, 2) := by decide +kernel
theorem dX4_turn_46 : decode cX4_turn 46 = .ok (.aload_n 0, 1) := by decide +kernel
theorem dX4_turn_47 : decode cX4_turn 47 = .ok (.getfield 12, 3) := by decide +kernel
theorem dX4_turn_50 : decode cX4_turn 50 = .ok (.getfield 57, 3) := by decide +kernel
theorem dX4_turn_53 : decode cX4_turn 53 = .ok (.if_icmp .ge 51, 3) := by decide +kernel
theorem dX4_turn_56 : decode cX4_turn 56 = .ok (.iload 6, 2) := by decide +kernel
theorem dX4_turn_58 : decode cX4_turn 58 = .ok (.iload_n 1, 1) := by decide +kernel
theorem dX4_turn_59 : decode cX4_turn 59 = .ok (.if_icmp .ne 6, 3) := by decide +kernel
theorem dX4_turn_62 : decode cX4_turn 62 = .ok (.goto 36, 3) := by decide +kernel
theorem dX4_turn_65 : decode cX4_turn 65 = .ok (.aload_n 0, 1) := by decide +kernel
theorem dX4_turn_66 : decode cX4_turn 66 = .ok (.iload_n 1, 1) := by decide +kernel
theorem dX4_turn_67 : decode cX4_turn 67 = .ok (.iconst 4, 1) := by decide +kernel
theorem dX4_turn_68 : decode cX4_turn 68 = .ok (.iload 6, 2) := by decide +kernel
theorem dX4_turn_70 : decode cX4_turn 70 = .ok (.iload_n 2, 1) := by decide +kernel
theorem dX4_turn_71 : decode cX4_turn 71 = .ok (.invokevirtual 156, 3) := by decide +kernel
theorem dX4_turn_74 : decode cX4_turn 74 = .ok (.aload_n 0, 1) := by decide +kernel
theorem dX4_turn_75 : decode cX4_turn 75 = .ok (.getfield 16, 3) := by decide +kernel
theorem dX4_turn_78 : decode cX4_turn 78 = .ok (.invokevirtual 123, 3) := by decide +kernel
theorem dX4_turn_81 : decode cX4_turn 81 = .ok (.istore 7, 2) := by decide +kernel
theorem dX4_turn_83 : decode cX4_turn 83 = .ok (.iload 7, 2) := by decide +kernel
theorem dX4_turn_85 : decode cX4_turn 85 = .ok (.iload 5, 2) := by decide +kernel
theorem dX4_turn_87 : decode cX4_turn 87 = .ok (.if_icmp .le 11, 3) := by decide +kernel
theorem dX4_turn_90 : decode cX4_turn 90 = .ok (.iload 7, 2) := by decide +kernel
theorem dX4_turn_92 : decode cX4_turn 92 = .ok (.istore 5, 2) := by decide +kernel
theorem dX4_turn_94 : decode cX4_turn 94 = .ok (.iload 6, 2) := by decide +kernel
theorem dX4_turn_96 : decode cX4_turn 96 = .ok (.istore 4, 2) := by decide +kernel
theorem dX4_turn_98 : decode cX4_turn 98 = .ok (.iinc 6 1, 3) := by decide +kernel
theorem dX4_turn_101 : decode cX4_turn 101 = .ok (.goto (-57), 3) := by decide +kernel
theorem dX4_turn_104 : decode cX4_turn 104 = .ok (.iload 4, 2) := by decide +kernel
theorem dX4_turn_106 : decode cX4_turn 106 = .ok (.ireturn, 1) := by decide +kernel
theorem dX4_damper_0 : decode cX4_damper 0 = .ok (.aload_n 0, 1) := by decide +kernel
theorem dX4_damper_1 : decode cX4_damper 1 = .ok (.iload_n 1, 1) := by decide +kernel
theorem dX4_damper_2 : decode cX4_damper 2 = .ok (.iload_n 2, 1) := by decide +kernel
theorem dX4_damper_3 : decode cX4_damper 3 = .ok (.invokevirtual 153, 3) := by decide +kernel
theorem dX4_damper_6 : decode cX4_damper 6 = .ok (.istore_n 3, 1) := by decide +kernel
theorem dX4_damper_7 : decode cX4_damper 7 = .ok (.iload_n 3, 1) := by decide +kernel
theorem dX4_damper_8 : decode cX4_damper 8 = .ok (.ifCond .eq 9, 3) := by decide +kernel
theorem dX4_damper_11 : decode cX4_damper 11 = .ok (.aload_n 0, 1) := by decide +kernel
theorem dX4_damper_12 : decode cX4_damper 12 = .ok (.iload_n 3, 1) := by decide +kernel
theorem dX4_damper_13 : decode cX4_damper 13 = .ok (.invokevirtual 53, 3) := by decide +kernel
theorem dX4_damper_16 : decode cX4_damper 16 = .ok (.ireturn, 1) := by decide +kernel
theorem dX4_damper_17 : decode cX4_damper 17 = .ok (.aload_n 0, 1) := by decide +kernel
theorem dX4_damper_18 : decode cX4_damper 18 = .ok (.iload_n 1, 1) := by decide +kernel
theorem dX4_damper_19 : decode cX4_damper 19 = .ok (.bipush 6, 2) := by decide +kernel
theorem dX4_damper_21 : decode cX4_damper 21 = .ok (.iload_n 2, 1) := by decide +kernel
theorem dX4_damper_22 : decode cX4_damper 22 = .ok (.invokevirtual 164, 3) := by decide +kernel
theorem dX4_damper_25 : decode cX4_damper 25 = .ok (.ireturn, 1) := by decide +kernel
theorem dX4_own_0 : decode cX4_own 0 = .ok (.aload_n 0, 1) := by decide +kernel
theorem dX4_own_1 : decode cX4_own 1 = .ok (.iload_n 1, 1) := by decide +kernel
theorem dX4_own_2 : decode cX4_own 2 = .ok (.bipush 60, 2) := by decide +kernel
theorem dX4_own_4 : decode cX4_own 4 = .ok (.invokevirtual 92, 3) := by decide +kernel
theorem dX4_own_7 : decode cX4_own 7 = .ok (.istore_n 2, 1) := by decide +kernel
theorem dX4_own_8 : decode cX4_own 8 = .ok (.iload_n 2, 1) := by decide +kernel
theorem dX4_own_9 : decode cX4_own 9 = .ok (.ifCond .eq 9, 3) := by decide +kernel
theorem dX4_own_12 : decode cX4_own 12 = .ok (.aload_n 0, 1) := by decide +kernel
theorem dX4_own_13 : decode cX4_own 13 = .ok (.iload_n 2, 1) := by decide +kernel
theorem dX4_own_14 : decode cX4_own 14 = .ok (.invokevirtual 53, 3) := by decide +kernel
theorem dX4_own_17 : decode cX4_own 17 = .ok (.ireturn, 1) := by decide +kernel
theorem dX4_own_18 : decode cX4_own 18 = .ok (.aload_n 0, 1) := by decide +kernel
theorem dX4_own_19 : decode cX4_own 19 = .ok (.iload_n 1, 1) := by decide +kernel
theorem dX4_own_20 : decode cX4_own 20 = .ok (.invokevirtual 141, 3) := by decide +kernel
theorem dX4_own_23 : decode cX4_own 23 = .ok (.aload_n 0, 1) := by decide +kernel
theorem dX4_own_24 : decode cX4_own 24 = .ok (.invokevirtual 120, 3) := by decide +kernel
theorem dX4_own_27 : decode cX4_own 27 = .ok (.iconst 0, 1) := by decide +kernel
theorem dX4_own_28 : decode cX4_own 28 = .ok (.istore_n 3, 1) := by decide +kernel
theorem dX4_own_29 : decode cX4_own 29 = .ok (.iload_n 3, 1) := by decide +kernel
theorem dX4_own_30 : decode cX4_own 30 = .ok (.aload_n 0, 1) := by decide +kernel
theorem dX4_own_31 : decode cX4_own 31 = .ok (.getfield 16, 3) := by decide +kernel
theorem dX4_own_34 : decode cX4_own 34 = .ok (.getfield 57, 3) := by decide +kernel
theorem dX4_own_37 : decode cX4_own 37 = .ok (.if_icmp .ge 19, 3) := by decide +kernel
theorem dX4_own_40 : decode cX4_own 40 = .ok (.aload_n 0, 1) := by decide +kernel
theorem dX4_own_41 : decode cX4_own 41 = .ok (.getfield 16, 3) := by decide +kernel
theorem dX4_own_44 : decode cX4_own 44 = .ok (.getfield 195, 3) := by decide +kernel
theorem dX4_own_47 : decode cX4_own 47 = .ok (.iload_n 3, 1) := by decide +kernel
theorem dX4_own_48 : decode cX4_own 48 = .ok (.iload_n 3, 1) := by decide +kernel
theorem dX4_own_49 : decode cX4_own 49 = .ok (.iastore, 1) := by decide +kernel
theorem dX4_own_50 : decode cX4_own 50 = .ok (.iinc 3 1, 3) := by decide +kernel
theorem dX4_own_53 : decode cX4_own 53 = .ok (.goto (-24), 3) := by decide +kernel
theorem dX4_own_56 : decode cX4_own 56 = .ok (.aload_n 0, 1) := by decide +kernel
theorem dX4_own_57 : decode cX4_own 57 = .ok (.getfield 16, 3) := by decide +kernel
theorem dX4_own_60 : decode cX4_own 60 = .ok (.iload_n 1, 1) := by decide +kernel
theorem dX4_own_61 : decode cX4_own 61 = .ok (.invokevirtual 96, 3) := by decide +kernel
theorem dX4_own_64 : decode cX4_own 64 = .ok (.pop, 1) := by decide +kernel
theorem dX4_own_65 : decode cX4_own 65 = .ok (.aload_n 0, 1) := by decide +kernel
theorem dX4_own_66 : decode cX4_own 66 = .ok (.getfield 16, 3) := by decide +kernel
theorem dX4_own_69 : decode cX4_own 69 = .ok (.aload_n 0, 1) := by decide +kernel
theorem dX4_own_70 : decode cX4_own 70 = .ok (.getfield 19, 3) := by decide +kernel
theorem dX4_own_73 : decode cX4_own 73 = .ok (.invokevirtual 160, 3) := by decide +kernel
theorem dX4_own_76 : decode cX4_own 76 = .ok (.ireturn, 1) := by decide +kernel
theorem dX4_culprits_0 : decode cX4_culprits 0 = .ok (.iconst 0, 1) := by decide +kernel
theorem dX4_culprits_1 : decode cX4_culprits 1 = .ok (.istore_n 1, 1) := by decide +kernel
theorem dX4_culprits_2 : decode cX4_culprits 2 = .ok (.iconst 0, 1) := by decide +kernel
theorem dX4_culprits_3 : decode cX4_culprits 3 = .ok (.istore_n 2, 1) := by decide +kernel
theorem dX4_culprits_4 : decode cX4_culprits 4 = .ok (.iload_n 2, 1) := by decide +kernel
theorem dX4_culprits_5 : decode cX4_culprits 5 = .ok (.iconst 1, 1) := by decide +kernel
theorem dX4_culprits_6 : decode cX4_culprits 6 = .ok (.aload_n 0, 1) := by decide +kernel
theorem dX4_culprits_7 : decode cX4_culprits 7 = .ok (.getfield 12, 3) := by decide +kernel
theorem dX4_culprits_10 : decode cX4_culprits 10 = .ok (.getfield 57, 3) := by decide +kernel
theorem dX4_culprits_13 : decode cX4_culprits 13 = .ok (.ishl, 1) := by decide +kernel
theorem dX4_culprits_14 : decode cX4_culprits 14 = .ok (.if_icmp .ge 23, 3) := by decide +kernel
theorem dX4_culprits_17 : decode cX4_culprits 17 = .ok (.aload_n 0, 1) := by decide +kernel
theorem dX4_culprits_18 : decode cX4_culprits 18 = .ok (.getfield 12, 3) := by decide +kernel
theorem dX4_culprits_21 : decode cX4_culprits 21 = .ok (.iload_n 2, 1) := by decide +kernel
theorem dX4_culprits_22 : decode cX4_culprits 22 = .ok (.invokevirtual 198, 3) := by decide +kernel
theorem dX4_culprits_25 : decode cX4_culprits 25 = .ok (.ifCond .eq 6, 3) := by decide +kernel
theorem dX4_culprits_28 : decode cX4_culprits 28 = .ok (.iinc 1 1, 3) := by decide +kernel
theorem dX4_culprits_31 : decode cX4_culprits 31 = .ok (.iinc 2 1, 3) := by decide +kernel
theorem dX4_culprits_34 : decode cX4_culprits 34 = .ok (.goto (-30), 3) := by decide +kernel
theorem dX4_culprits_37 : decode cX4_culprits 37 = .ok (.iload_n 1, 1) := by decide +kernel
theorem dX4_culprits_38 : decode cX4_culprits 38 = .ok (.ireturn, 1) := by decide +kernel
theorem dX4_surely_0 : decode cX4_surely 0 = .ok (.iload_n 1, 1) := by decide +kernel
theorem dX4_surely_1 : decode cX4_surely 1 = .ok (.ifCond .lt 8, 3) := by decide +kernel
theorem dX4_surely_4 : decode cX4_surely 4 = .ok (.iload_n 1, 1) := by decide +kernel
theorem dX4_surely_5 : decode cX4_surely 5 = .ok (.iconst 2, 1) := by decide +kernel
theorem dX4_surely_6 : decode cX4_surely 6 = .ok (.if_icmp .le 10, 3) := by decide +kernel
theorem dX4_surely_9 : decode cX4_surely 9 = .ok (.aload_n 0, 1) := by decide +kernel
theorem dX4_surely_10 : decode cX4_surely 10 = .ok (.ldc 52, 2) := by decide +kernel
theorem dX4_surely_12 : decode cX4_surely 12 = .ok (.invokevirtual 53, 3) := by decide +kernel
theorem dX4_surely_15 : decode cX4_surely 15 = .ok (.ireturn, 1) := by decide +kernel
theorem dX4_surely_16 : decode cX4_surely 16 = .ok (.iconst (-1), 1) := by decide +kernel
theorem dX4_surely_17 : decode cX4_surely 17 = .ok (.istore_n 2, 1) := by decide +kernel
theorem dX4_surely_18 : decode cX4_surely 18 = .ok (.iconst 0, 1) := by decide +kernel
theorem dX4_surely_19 : decode cX4_surely 19 = .ok (.istore_n 3, 1) := by decide +kernel
theorem dX4_surely_20 : decode cX4_surely 20 = .ok (.iconst (-1), 1) := by decide +kernel
theorem dX4_surely_21 : decode cX4_surely 21 = .ok (.istore 4, 2) := by decide +kernel
theorem dX4_surely_23 : decode cX4_surely 23 = .ok (.iconst 0, 1) := by decide +kernel
theorem dX4_surely_24 : decode cX4_surely 24 = .ok (.istore 5, 2) := by decide +kernel
theorem dX4_surely_26 : decode cX4_surely 26 = .ok (.iload 5, 2) := by decide +kernel
theorem dX4_surely_28 : decode cX4_surely 28 = .ok (.iconst 1, 1) := by decide +kernel
theorem dX4_surely_29 : decode cX4_surely 29 = .ok (.aload_n 0, 1) := by decide +kernel
theorem dX4_surely_30 : decode cX4_surely 30 = .ok (.getfield 12, 3) := by decide +kernel
theorem dX4_surely_33 : decode cX4_surely 33 = .ok (.getfield 57, 3) := by decide +kernel
theorem dX4_surely_36 : decode cX4_surely 36 = .ok (.ishl, 1) := by decide +kernel
theorem dX4_surely_37 : decode cX4_surely 37 = .ok (.if_icmp .ge 45, 3) := by decide +kernel
theorem dX4_surely_40 : decode cX4_surely 40 = .ok (.aload_n 0, 1) := by decide +kernel
theorem dX4_surely_41 : decode cX4_surely 41 = .ok (.getfield 12, 3) := by decide +kernel
theorem dX4_surely_44 : decode cX4_surely 44 = .ok (.iload 5, 2) := by decide +kernel
theorem dX4_surely_46 : decode cX4_surely 46 = .ok (.invokevirtual 198, 3) := by decide +kernel
theorem dX4_surely_49 : decode cX4_surely 49 = .ok (.ifCond .eq 27, 3) := by decide +kernel
theorem dX4_surely_52 : decode cX4_surely 52 = .ok (.iload_n 2, 1) := by decide +kernel
theorem dX4_surely_53 : decode cX4_surely 53 = .ok (.iload 5, 2) := by decide +kernel
theorem dX4_surely_55 : decode cX4_surely 55 = .ok (.iand, 1) := by decide +kernel
theorem dX4_surely_56 : decode cX4_surely 56 = .ok (.istore_n 2, 1) := by decide +kernel
theorem dX4_surely_57 : decode cX4_surely 57 = .ok (.iload_n 3, 1) := by decide +kernel
theorem dX4_surely_58 : decode cX4_surely 58 = .ok (.iload 5, 2) := by decide +kernel
theorem dX4_surely_60 : decode cX4_surely 60 = .ok (.ior, 1) := by decide +kernel
theorem dX4_surely_61 : decode cX4_surely 61 = .ok (.istore_n 3, 1) := by decide +kernel
theorem dX4_surely_62 : decode cX4_surely 62 = .ok (.iload 4, 2) := by decide +kernel
theorem dX4_surely_64 : decode cX4_surely 64 = .ok (.ifCond .ge 8, 3) := by decide +kernel
theorem dX4_surely_67 : decode cX4_surely 67 = .ok (.iload 5, 2) := by decide +kernel
theorem dX4_surely_69 : decode cX4_surely 69 = .ok (.goto 5, 3) := by decide +kernel
theorem dX4_surely_72 : decode cX4_surely 72 = .ok (.iload 4, 2) := by decide +kernel
theorem dX4_surely_74 : decode cX4_surely 74 = .ok (.istore 4, 2) := by decide +kernel
theorem dX4_surely_76 : decode cX4_surely 76 = .ok (.iinc 5 1, 3) := by decide +kernel
theorem dX4_surely_79 : decode cX4_surely 79 = .ok (.goto (-53), 3) := by decide +kernel
theorem dX4_surely_82 : decode cX4_surely 82 = .ok (.iload 4, 2) := by decide +kernel
theorem dX4_surely_84 : decode cX4_surely 84 = .ok (.ifCond .ge 10, 3) := by decide +kernel
theorem dX4_surely_87 : decode cX4_surely 87 = .ok (.aload_n 0, 1) := by decide +kernel
theorem dX4_surely_88 : decode cX4_surely 88 = .ok (.ldc 137, 2) := by decide +kernel
theorem dX4_surely_90 : decode cX4_surely 90 = .ok (.invokevirtual 53, 3) := by decide +kernel
theorem dX4_surely_93 : decode cX4_surely 93 = .ok (.ireturn, 1) := by decide +kernel
theorem dX4_surely_94 : decode cX4_surely 94 = .ok (.iload_n 1, 1) := by decide +kernel
theorem dX4_surely_95 : decode cX4_surely 95 = .ok (.ifCond .ne 7, 3) := by decide +kernel
theorem dX4_surely_98 : decode cX4_surely 98 = .ok (.iload_n 2, 1) := by decide +kernel
theorem dX4_surely_99 : decode cX4_surely 99 = .ok (.goto 14, 3) := by decide +kernel
theorem dX4_surely_102 : decode cX4_surely 102 = .ok (.iload_n 1, 1) := by decide +kernel
theorem dX4_surely_103 : decode cX4_surely 103 = .ok (.iconst 1, 1) := by decide +kernel
theorem dX4_surely_104 : decode cX4_surely 104 = .ok (.if_icmp .ne 7, 3) := by decide +kernel
theorem dX4_surely_107 : decode cX4_surely 107 = .ok (.iload_n 3, 1) := by decide +kernel
theorem dX4_surely_108 : decode cX4_surely 108 = .ok (.goto 5, 3) := by decide +kernel
theorem dX4_surely_111 : decode cX4_surely 111 = .ok (.iload 4, 2) := by decide +kernel
theorem dX4_surely_113 : decode cX4_surely 113 = .ok (.ireturn, 1) := by decide +kernel
theorem dX4_travel_0 : decode cX4_travel 0 = .ok (.iload_n 1, 1) := by decide +kernel
theorem dX4_travel_1 : decode cX4_travel 1 = .ok (.iconst 1, 1) := by decide +kernel
theorem dX4_travel_2 : decode cX4_travel 2 = .ok (.if_icmp .lt 9, 3) := by decide +kernel
theorem dX4_travel_5 : decode cX4_travel 5 = .ok (.iload_n 1, 1) := by decide +kernel
theorem dX4_travel_6 : decode cX4_travel 6 = .ok (.bipush 12, 2) := by decide +kernel
theorem dX4_travel_8 : decode cX4_travel 8 = .ok (.if_icmp .le 10, 3) := by decide +kernel
theorem dX4_travel_11 : decode cX4_travel 11 = .ok (.aload_n 0, 1) := by decide +kernel
theorem dX4_travel_12 : decode cX4_travel 12 = .ok (.ldc 52, 2) := by decide +kernel
theorem dX4_travel_14 : decode cX4_travel 14 = .ok (.invokevirtual 53, 3) := by decide +kernel
theorem dX4_travel_17 : decode cX4_travel 17 = .ok (.ireturn, 1) := by decide +kernel
theorem dX4_travel_18 : decode cX4_travel 18 = .ok (.aload_n 0, 1) := by decide +kernel
theorem dX4_travel_19 : decode cX4_travel 19 = .ok (.getfield 12, 3) := by decide +kernel
theorem dX4_travel_22 : decode cX4_travel 22 = .ok (.getfield 57, 3) := by decide +kernel
theorem dX4_travel_25 : decode cX4_travel 25 = .ok (.ifCond .ne 10, 3) := by decide +kernel
theorem dX4_travel_28 : decode cX4_travel 28 = .ok (.aload_n 0, 1) := by decide +kernel
theorem dX4_travel_29 : decode cX4_travel 29 = .ok (.ldc 119, 2) := by decide +kernel
theorem dX4_travel_31 : decode cX4_travel 31 = .ok (.invokevirtual 53, 3) := by decide +kernel
theorem dX4_travel_34 : decode cX4_travel 34 = .ok (.ireturn, 1) := by decide +kernel
theorem dX4_travel_35 : decode cX4_travel 35 = .ok (.iconst 0, 1) := by decide +kernel
theorem dX4_travel_36 : decode cX4_travel 36 = .ok (.istore_n 2, 1) := by decide +kernel
theorem dX4_travel_37 : decode cX4_travel 37 = .ok (.iload_n 2, 1) := by decide +kernel
theorem dX4_travel_38 : decode cX4_travel 38 = .ok (.iload_n 1, 1) := by decide +kernel
theorem dX4_travel_39 : decode cX4_travel 39 = .ok (.if_icmp .ge 45, 3) := by decide +kernel
theorem dX4_travel_42 : decode cX4_travel 42 = .ok (.aload_n 0, 1) := by decide +kernel
theorem dX4_travel_43 : decode cX4_travel 43 = .ok (.getfield 12, 3) := by decide +kernel
theorem dX4_travel_46 : decode cX4_travel 46 = .ok (.invokevirtual 201, 3) := by decide +kernel
theorem dX4_travel_49 : decode cX4_travel 49 = .ok (.aload_n 0, 1) := by decide +kernel
theorem dX4_travel_50 : decode cX4_travel 50 = .ok (.getfield 12, 3) := by decide +kernel
theorem dX4_travel_53 : decode cX4_travel 53 = .ok (.getfield 57, 3) := by decide +kernel
theorem dX4_travel_56 : decode cX4_travel 56 = .ok (.irem, 1) := by decide +kernel
theorem dX4_travel_57 : decode cX4_travel 57 = .ok (.istore_n 3, 1) := by decide +kernel
theorem dX4_travel_58 : decode cX4_travel 58 = .ok (.aload_n 0, 1) := by decide +kernel
theorem dX4_travel_59 : decode cX4_travel 59 = .ok (.getfield 12, 3) := by decide +kernel
theorem dX4_travel_62 : decode cX4_travel 62 = .ok (.getfield 204, 3) := by decide +kernel
theorem dX4_travel_65 : decode cX4_travel 65 = .ok (.iload_n 3, 1) := by decide +kernel
theorem dX4_travel_66 : decode cX4_travel 66 = .ok (.iconst 1, 1) := by decide +kernel
theorem dX4_travel_67 : decode cX4_travel 67 = .ok (.aload_n 0, 1) := by decide +kernel
theorem dX4_travel_68 : decode cX4_travel 68 = .ok (.getfield 12, 3) := by decide +kernel
theorem dX4_travel_71 : decode cX4_travel 71 = .ok (.getfield 204, 3) := by decide +kernel
theorem dX4_travel_74 : decode cX4_travel 74 = .ok (.iload_n 3, 1) := by decide +kernel
theorem dX4_travel_75 : decode cX4_travel 75 = .ok (.iaload, 1) := by decide +kernel
theorem dX4_travel_76 : decode cX4_travel 76 = .ok (.isub, 1) := by decide +kernel
theorem dX4_travel_77 : decode cX4_travel 77 = .ok (.iastore, 1) := by decide +kernel
theorem dX4_travel_78 : decode cX4_travel 78 = .ok (.iinc 2 1, 3) := by decide +kernel
theorem dX4_travel_81 : decode cX4_travel 81 = .ok (.goto (-44), 3) := by decide +kernel
theorem dX4_travel_84 : decode cX4_travel 84 = .ok (.aload_n 0, 1) := by decide +kernel
theorem dX4_travel_85 : decode cX4_travel 85 = .ok (.getfield 12, 3) := by decide +kernel
theorem dX4_travel_88 : decode cX4_travel 88 = .ok (.invokevirtual 207, 3) := by decide +kernel
theorem dX4_travel_91 : decode cX4_travel 91 = .ok (.ireturn, 1) := by decide +kernel
theorem dX4_seed_0 : decode cX4_seed 0 = .ok (.aload_n 0, 1) := by decide +kernel
theorem dX4_seed_1 : decode cX4_seed 1 = .ok (.getfield 12, 3) := by decide +kernel
theorem dX4_seed_4 : decode cX4_seed 4 = .ok (.getfield 210, 3) := by decide +kernel
theorem dX4_seed_7 : decode cX4_seed 7 = .ok (.istore_n 2, 1) := by decide +kernel
theorem dX4_seed_8 : decode cX4_seed 8 = .ok (.aload_n 0, 1) := by decide +kernel
theorem dX4_seed_9 : decode cX4_seed 9 = .ok (.getfield 12, 3) := by decide +kernel
theorem dX4_seed_12 : decode cX4_seed 12 = .ok (.iload_n 1, 1) := by decide +kernel
theorem dX4_seed_13 : decode cX4_seed 13 = .ok (.putfield 210, 3) := by decide +kernel
theorem dX4_seed_16 : decode cX4_seed 16 = .ok (.iload_n 2, 1) := by decide +kernel
theorem dX4_seed_17 : decode cX4_seed 17 = .ok (.ireturn, 1) := by decide +kernel
theorem dX4_feed_0 : decode cX4_feed 0 = .ok (.iload_n 2, 1) := by decide +kernel
theorem dX4_feed_1 : decode cX4_feed 1 = .ok (.iconst 1, 1) := by decide +kernel
theorem dX4_feed_2 : decode cX4_feed 2 = .ok (.if_icmp .lt 8, 3) := by decide +kernel
theorem dX4_feed_5 : decode cX4_feed 5 = .ok (.iload_n 2, 1) := by decide +kernel
theorem dX4_feed_6 : decode cX4_feed 6 = .ok (.iconst 4, 1) := by decide +kernel
theorem dX4_feed_7 : decode cX4_feed 7 = .ok (.if_icmp .le 10, 3) := by decide +kernel
theorem dX4_feed_10 : decode cX4_feed 10 = .ok (.aload_n 0, 1) := by decide +kernel
theorem dX4_feed_11 : decode cX4_feed 11 = .ok (.ldc 52, 2) := by decide +kernel
theorem dX4_feed_13 : decode cX4_feed 13 = .ok (.invokevirtual 53, 3) := by decide +kernel
theorem dX4_feed_16 : decode cX4_feed 16 = .ok (.ireturn, 1) := by decide +kernel
theorem dX4_feed_17 : decode cX4_feed 17 = .ok (.aload_n 0, 1) := by decide +kernel
theorem dX4_feed_18 : decode cX4_feed 18 = .ok (.getfield 36, 3) := by decide +kernel
theorem dX4_feed_21 : decode cX4_feed 21 = .ok (.getfield 213, 3) := by decide +kernel
theorem dX4_feed_24 : decode cX4_feed 24 = .ok (.iload_n 2, 1) := by decide +kernel
theorem dX4_feed_25 : decode cX4_feed 25 = .ok (.iadd, 1) := by decide +kernel
theorem dX4_feed_26 : decode cX4_feed 26 = .ok (.bipush 120, 2) := by decide +kernel
theorem dX4_feed_28 : decode cX4_feed 28 = .ok (.if_icmp .le 10, 3) := by decide +kernel
theorem dX4_feed_31 : decode cX4_feed 31 = .ok (.aload_n 0, 1) := by decide +kernel
theorem dX4_feed_32 : decode cX4_feed 32 = .ok (.ldc 61, 2) := by decide +kernel
theorem dX4_feed_34 : decode cX4_feed 34 = .ok (.invokevirtual 53, 3) := by decide +kernel
theorem dX4_feed_37 : decode cX4_feed 37 = .ok (.ireturn, 1) := by decide +kernel
theorem dX4_feed_38 : decode cX4_feed 38 = .ok (.aload_n 0, 1) := by decide +kernel
theorem dX4_feed_39 : decode cX4_feed 39 = .ok (.getfield 36, 3) := by decide +kernel
theorem dX4_feed_42 : decode cX4_feed 42 = .ok (.iload_n 1, 1) := by decide +kernel
theorem dX4_feed_43 : decode cX4_feed 43 = .ok (.iload_n 2, 1) := by decide +kernel
theorem dX4_feed_44 : decode cX4_feed 44 = .ok (.invokevirtual 218, 3) := by decide +kernel
theorem dX4_feed_47 : decode cX4_feed 47 = .ok (.aload_n 0, 1) := by decide +kernel
theorem dX4_feed_48 : decode cX4_feed 48 = .ok (.getfield 36, 3) := by decide +kernel
theorem dX4_feed_51 : decode cX4_feed 51 = .ok (.getfield 213, 3) := by decide +kernel
theorem dX4_feed_54 : decode cX4_feed 54 = .ok (.ireturn, 1) := by decide +kernel
theorem dX4_wipe_0 : decode cX4_wipe 0 = .ok (.aload_n 0, 1) := by decide +kernel
theorem dX4_wipe_1 : decode cX4_wipe 1 = .ok (.getfield 36, 3) := by decide +kernel
theorem dX4_wipe_4 : decode cX4_wipe 4 = .ok (.getfield 213, 3) := by decide +kernel
theorem dX4_wipe_7 : decode cX4_wipe 7 = .ok (.istore_n 1, 1) := by decide +kernel
theorem dX4_wipe_8 : decode cX4_wipe 8 = .ok (.aload_n 0, 1) := by decide +kernel
theorem dX4_wipe_9 : decode cX4_wipe 9 = .ok (.getfield 36, 3) := by decide +kernel
theorem dX4_wipe_12 : decode cX4_wipe 12 = .ok (.iconst 0, 1) := by decide +kernel
theorem dX4_wipe_13 : decode cX4_wipe 13 = .ok (.putfield 213, 3) := by decide +kernel
theorem dX4_wipe_16 : decode cX4_wipe 16 = .ok (.iload_n 1, 1) := by decide +kernel
theorem dX4_wipe_17 : decode cX4_wipe 17 = .ok (.ireturn, 1) := by decide +kernel
theorem dX4_text_0 : decode cX4_text 0 = .ok (.aload_n 0, 1) := by decide +kernel
theorem dX4_text_1 : decode cX4_text 1 = .ok (.getfield 28, 3) := by decide +kernel
theorem dX4_text_4 : decode cX4_text 4 = .ok (.aload_n 0, 1) := by decide +kernel
theorem dX4_text_5 : decode cX4_text 5 = .ok (.getfield 12, 3) := by decide +kernel
theorem dX4_text_8 : decode cX4_text 8 = .ok (.invokevirtual 221, 3) := by decide +kernel
theorem dX4_text_11 : decode cX4_text 11 = .ok (.istore_n 1, 1) := by decide +kernel
theorem dX4_text_12 : decode cX4_text 12 = .ok (.aload_n 0, 1) := by decide +kernel
theorem dX4_text_13 : decode cX4_text 13 = .ok (.getfield 36, 3) := by decide +kernel
theorem dX4_text_16 : decode cX4_text 16 = .ok (.iconst 0, 1) := by decide +kernel
theorem dX4_text_17 : decode cX4_text 17 = .ok (.putfield 213, 3) := by decide +kernel
theorem dX4_text_20 : decode cX4_text 20 = .ok (.iload_n 1, 1) := by decide +kernel
theorem dX4_text_21 : decode cX4_text 21 = .ok (.ireturn, 1) := by decide +kernel
theorem dX4_hold_0 : decode cX4_hold 0 = .ok (.iload_n 1, 1) := by decide +kernel
theorem dX4_hold_1 : decode cX4_hold 1 = .ok (.invokestatic 224, 3) := by decide +kernel
theorem dX4_hold_4 : decode cX4_hold 4 = .ok (.ifCond .eq 19, 3) := by decide +kernel
theorem dX4_hold_7 : decode cX4_hold 7 = .ok (.iload_n 2, 1) := by decide +kernel
theorem dX4_hold_8 : decode cX4_hold 8 = .ok (.iconst (-1), 1) := by decide +kernel
theorem dX4_hold_9 : decode cX4_hold 9 = .ok (.if_icmp .eq 21, 3) := by decide +kernel
theorem dX4_hold_12 : decode cX4_hold 12 = .ok (.aload_n 0, 1) := by decide +kernel
theorem dX4_hold_13 : decode cX4_hold 13 = .ok (.getfield 12, 3) := by decide +kernel
theorem dX4_hold_16 : decode cX4_hold 16 = .ok (.iload_n 2, 1) := by decide +kernel
theorem dX4_hold_17 : decode cX4_hold 17 = .ok (.invokevirtual 65, 3) := by decide +kernel
theorem dX4_hold_20 : decode cX4_hold 20 = .ok (.ifCond .ne 10, 3) := by decide +kernel
theorem dX4_hold_23 : decode cX4_hold 23 = .ok (.aload_n 0, 1) := by decide +kernel
theorem dX4_hold_24 : decode cX4_hold 24 = .ok (.ldc 52, 2) := by decide +kernel
theorem dX4_hold_26 : decode cX4_hold 26 = .ok (.invokevirtual 53, 3) := by decide +kernel
theorem dX4_hold_29 : decode cX4_hold 29 = .ok (.ireturn, 1) := by decide +kernel
theorem dX4_hold_30 : decode cX4_hold 30 = .ok (.aload_n 0, 1) := by decide +kernel
theorem dX4_hold_31 : decode cX4_hold 31 = .ok (.getfield 12, 3) := by decide +kernel
theorem dX4_hold_34 : decode cX4_hold 34 = .ok (.getfield 227, 3) := by decide +kernel
theorem dX4_hold_37 : decode cX4_hold 37 = .ok (.iload_n 1, 1) := by decide +kernel
theorem dX4_hold_38 : decode cX4_hold 38 = .ok (.iload_n 2, 1) := by decide +kernel
theorem dX4_hold_39 : decode cX4_hold 39 = .ok (.iastore, 1) := by decide +kernel
theorem dX4_hold_40 : decode cX4_hold 40 = .ok (.iconst 1, 1) := by decide +kernel
theorem dX4_hold_41 : decode cX4_hold 41 = .ok (.ireturn, 1) := by decide +kernel
theorem dX4_as_0 : decode cX4_as 0 = .ok (.iload_n 1, 1) := by decide +kernel
theorem dX4_as_1 : decode cX4_as 1 = .ok (.invokestatic 224, 3) := by decide +kernel
theorem dX4_as_4 : decode cX4_as 4 = .ok (.ifCond .eq 10, 3) := by decide +kernel
theorem dX4_as_7 : decode cX4_as 7 = .ok (.iload_n 2, 1) := by decide +kernel
theorem dX4_as_8 : decode cX4_as 8 = .ok (.invokestatic 48, 3) := by decide +kernel
theorem dX4_as_11 : decode cX4_as 11 = .ok (.ifCond .ne 10, 3) := by decide +kernel
theorem dX4_as_14 : decode cX4_as 14 = .ok (.aload_n 0, 1) := by decide +kernel
theorem dX4_as_15 : decode cX4_as 15 = .ok (.ldc 52, 2) := by decide +kernel
theorem dX4_as_17 : decode cX4_as 17 = .ok (.invokevirtual 53, 3) := by decide +kernel
theorem dX4_as_20 : decode cX4_as 20 = .ok (.ireturn, 1) := by decide +kernel
theorem dX4_as_21 : decode cX4_as 21 = .ok (.aload_n 0, 1) := by decide +kernel
theorem dX4_as_22 : decode cX4_as 22 = .ok (.getfield 12, 3) := by decide +kernel
theorem dX4_as_25 : decode cX4_as 25 = .ok (.getfield 227, 3) := by decide +kernel
theorem dX4_as_28 : decode cX4_as 28 = .ok (.iload_n 1, 1) := by decide +kernel
theorem dX4_as_29 : decode cX4_as 29 = .ok (.iaload, 1) := by decide +kernel
theorem dX4_as_30 : decode cX4_as 30 = .ok (.istore_n 3, 1) := by decide +kernel
theorem dX4_as_31 : decode cX4_as 31 = .ok (.aload_n 0, 1) := by decide +kernel
theorem dX4_as_32 : decode cX4_as 32 = .ok (.getfield 12, 3) := by decide +kernel
theorem dX4_as_35 : decode cX4_as 35 = .ok (.iload_n 3, 1) := by decide +kernel
theorem dX4_as_36 : decode cX4_as 36 = .ok (.invokevirtual 65, 3) := by decide +kernel
theorem dX4_as_39 : decode cX4_as 39 = .ok (.ifCond .ne 10, 3) := by decide +kernel
theorem dX4_as_42 : decode cX4_as 42 = .ok (.aload_n 0, 1) := by decide +kernel
theorem dX4_as_43 : decode cX4_as 43 = .ok (.ldc 230, 2) := by decide +kernel
theorem dX4_as_45 : decode cX4_as 45 = .ok (.invokevirtual 53, 3) := by decide +kernel
theorem dX4_as_48 : decode cX4_as 48 = .ok (.ireturn, 1) := by decide +kernel
theorem dX4_as_49 : decode cX4_as 49 = .ok (.aload_n 0, 1) := by decide +kernel
theorem dX4_as_50 : decode cX4_as 50 = .ok (.getfield 12, 3) := by decide +kernel
theorem dX4_as_53 : decode cX4_as 53 = .ok (.iload_n 3, 1) := by decide +kernel
theorem dX4_as_54 : decode cX4_as 54 = .ok (.iload_n 2, 1) := by decide +kernel
theorem dX4_as_55 : decode cX4_as 55 = .ok (.invokevirtual 231, 3) := by decide +kernel
theorem dX4_as_58 : decode cX4_as 58 = .ok (.ifCond .eq 7, 3) := by decide +kernel
theorem dX4_as_61 : decode cX4_as 61 = .ok (.iload_n 3, 1) := by decide +kernel
theorem dX4_as_62 : decode cX4_as 62 = .ok (.goto 9, 3) := by decide +kernel
theorem dX4_as_65 : decode cX4_as 65 = .ok (.aload_n 0, 1) := by decide +kernel
theorem dX4_as_66 : decode cX4_as 66 = .ok (.ldc 235, 2) := by decide +kernel
theorem dX4_as_68 : decode cX4_as 68 = .ok (.invokevirtual 53, 3) := by decide +kernel
theorem dX4_as_71 : decode cX4_as 71 = .ok (.ireturn, 1) := by decide +kernel
theorem dX4_sheet_0 : decode cX4_sheet 0 = .ok (.iload_n 1, 1) := by decide +kernel
theorem dX4_sheet_1 : decode cX4_sheet 1 = .ok (.invokestatic 236, 3) := by decide +kernel
theorem dX4_sheet_4 : decode cX4_sheet 4 = .ok (.ifCond .eq 25, 3) := by decide +kernel
theorem dX4_sheet_7 : decode cX4_sheet 7 = .ok (.iload_n 2, 1) := by decide +kernel
theorem dX4_sheet_8 : decode cX4_sheet 8 = .ok (.ifCond .eq 28, 3) := by decide +kernel
theorem dX4_sheet_11 : decode cX4_sheet 11 = .ok (.iload_n 2, 1) := by decide +kernel
theorem dX4_sheet_12 : decode cX4_sheet 12 = .ok (.bipush 8, 2) := by decide +kernel
theorem dX4_sheet_14 : decode cX4_sheet 14 = .ok (.if_icmp .eq 22, 3) := by decide +kernel
theorem dX4_sheet_17 : decode cX4_sheet 17 = .ok (.iload_n 2, 1) := by decide +kernel
theorem dX4_sheet_18 : decode cX4_sheet 18 = .ok (.bipush 16, 2) := by decide +kernel
theorem dX4_sheet_20 : decode cX4_sheet 20 = .ok (.if_icmp .eq 16, 3) := by decide +kernel
theorem dX4_sheet_23 : decode cX4_sheet 23 = .ok (.iload_n 2, 1) := by decide +kernel
theorem dX4_sheet_24 : decode cX4_sheet 24 = .ok (.bipush 32, 2) := by decide +kernel
theorem dX4_sheet_26 : decode cX4_sheet 26 = .ok (.if_icmp .eq 10, 3) := by decide +kernel
theorem dX4_sheet_29 : decode cX4_sheet 29 = .ok (.aload_n 0, 1) := by decide +kernel
theorem dX4_sheet_30 : decode cX4_sheet 30 = .ok (.ldc 52, 2) := by decide +kernel
theorem dX4_sheet_32 : decode cX4_sheet 32 = .ok (.invokevirtual 53, 3) := by decide +kernel
theorem dX4_sheet_35 : decode cX4_sheet 35 = .ok (.ireturn, 1) := by decide +kernel
theorem dX4_sheet_36 : decode cX4_sheet 36 = .ok (.iload_n 3, 1) := by decide +kernel
theorem dX4_sheet_37 : decode cX4_sheet 37 = .ok (.ifCond .ge 10, 3) := by decide +kernel
theorem dX4_sheet_40 : decode cX4_sheet 40 = .ok (.aload_n 0, 1) := by decide +kernel
theorem dX4_sheet_41 : decode cX4_sheet 41 = .ok (.ldc 239, 2) := by decide +kernel
theorem dX4_sheet_43 : decode cX4_sheet 43 = .ok (.invokevirtual 53, 3) := by decide +kernel
theorem dX4_sheet_46 : decode cX4_sheet 46 = .ok (.ireturn, 1) := by decide +kernel
theorem dX4_sheet_47 : decode cX4_sheet 47 = .ok (.iload_n 3, 1) := by decide +kernel
theorem dX4_sheet_48 : decode cX4_sheet 48 = .ok (.bipush 40, 2) := by decide +kernel
theorem dX4_sheet_50 : decode cX4_sheet 50 = .ok (.if_icmp .le 10, 3) := by decide +kernel
theorem dX4_sheet_53 : decode cX4_sheet 53 = .ok (.aload_n 0, 1) := by decide +kernel
theorem dX4_sheet_54 : decode cX4_sheet 54 = .ok (.ldc 52, 2) := by decide +kernel
theorem dX4_sheet_56 : decode cX4_sheet 56 = .ok (.invokevirtual 53, 3) := by decide +kernel
theorem dX4_sheet_59 : decode cX4_sheet 59 = .ok (.ireturn, 1) := by decide +kernel
theorem dX4_sheet_60 : decode cX4_sheet 60 = .ok (.aload_n 0, 1) := by decide +kernel
theorem dX4_sheet_61 : decode cX4_sheet 61 = .ok (.getfield 39, 3) := by decide +kernel
theorem dX4_sheet_64 : decode cX4_sheet 64 = .ok (.iload_n 1, 1) := by decide +kernel
theorem dX4_sheet_65 : decode cX4_sheet 65 = .ok (.aaload, 1) := by decide +kernel
theorem dX4_sheet_66 : decode cX4_sheet 66 = .ok (.iload_n 2, 1) := by decide +kernel
theorem dX4_sheet_67 : decode cX4_sheet 67 = .ok (.iload_n 3, 1) := by decide +kernel
theorem dX4_sheet_68 : decode cX4_sheet 68 = .ok (.invokevirtual 240, 3) := by decide +kernel
theorem dX4_sheet_71 : decode cX4_sheet 71 = .ok (.iload_n 2, 1) := by decide +kernel
theorem dX4_sheet_72 : decode cX4_sheet 72 = .ok (.ifCond .ne 7, 3) := by decide +kernel
theorem dX4_sheet_75 : decode cX4_sheet 75 = .ok (.iconst 0, 1) := by decide +kernel
theorem dX4_sheet_76 : decode cX4_sheet 76 = .ok (.goto 4, 3) := by decide +kernel
theorem dX4_sheet_79 : decode cX4_sheet 79 = .ok (.iload_n 3, 1) := by decide +kernel
theorem dX4_sheet_80 : decode cX4_sheet 80 = .ok (.ireturn, 1) := by decide +kernel
theorem dX4_write_0 : decode cX4_write 0 = .ok (.aload_n 0, 1) := by decide +kernel
theorem dX4_write_1 : decode cX4_write 1 = .ok (.iload_n 1, 1) := by decide +kernel
theorem dX4_write_2 : decode cX4_write 2 = .ok (.invokevirtual 243, 3) := by decide +kernel
theorem dX4_write_5 : decode cX4_write 5 = .ok (.istore 4, 2) := by decide +kernel
theorem dX4_write_7 : decode cX4_write 7 = .ok (.iload 4, 2) := by decide +kernel
theorem dX4_write_9 : decode cX4_write 9 = .ok (.ifCond .eq 10, 3) := by decide +kernel
theorem dX4_write_12 : decode cX4_write 12 = .ok (.aload_n 0, 1) := by decide +kernel
theorem dX4_write_13 : decode cX4_write 13 = .ok (.iload 4, 2) := by decide +kernel
theorem dX4_write_15 : decode cX4_write 15 = .ok (.invokevirtual 53, 3) := by decide +kernel
theorem dX4_write_18 : decode cX4_write 18 = .ok (.ireturn, 1) := by decide +kernel
theorem dX4_write_19 : decode cX4_write 19 = .ok (.aload_n 0, 1) := by decide +kernel
theorem dX4_write_20 : decode cX4_write 20 = .ok (.getfield 39, 3) := by decide +kernel
theorem dX4_write_23 : decode cX4_write 23 = .ok (.iload_n 1, 1) := by decide +kernel
theorem dX4_write_24 : decode cX4_write 24 = .ok (.aaload, 1) := by decide +kernel
theorem dX4_write_25 : decode cX4_write 25 = .ok (.iload_n 2, 1) := by decide +kernel
theorem dX4_write_26 : decode cX4_write 26 = .ok (.iconst 1, 1) := by decide +kernel
theorem dX4_write_27 : decode cX4_write 27 = .ok (.invokevirtual 246, 3) := by decide +kernel
theorem dX4_write_30 : decode cX4_write 30 = .ok (.ifCond .ne 10, 3) := by decide +kernel
theorem dX4_write_33 : decode cX4_write 33 = .ok (.aload_n 0, 1) := by decide +kernel
theorem dX4_write_34 : decode cX4_write 34 = .ok (.ldc 52, 2) := by decide +kernel
theorem dX4_write_36 : decode cX4_write 36 = .ok (.invokevirtual 53, 3) := by decide +kernel
theorem dX4_write_39 : decode cX4_write 39 = .ok (.ireturn, 1) := by decide +kernel
theorem dX4_write_40 : decode cX4_write 40 = .ok (.aload_n 0, 1) := by decide +kernel
theorem dX4_write_41 : decode cX4_write 41 = .ok (.getfield 39, 3) := by decide +kernel
theorem dX4_write_44 : decode cX4_write 44 = .ok (.iload_n 1, 1) := by decide +kernel
theorem dX4_write_45 : decode cX4_write 45 = .ok (.aaload, 1) := by decide +kernel
theorem dX4_write_46 : decode cX4_write 46 = .ok (.iload_n 2, 1) := by decide +kernel
theorem dX4_write_47 : decode cX4_write 47 = .ok (.iload_n 3, 1) := by decide +kernel
theorem dX4_write_48 : decode cX4_write 48 = .ok (.invokevirtual 248, 3) := by decide +kernel
theorem dX4_write_51 : decode cX4_write 51 = .ok (.iconst 1, 1) := by decide +kernel
theorem dX4_write_52 : decode cX4_write 52 = .ok (.ireturn, 1) := by decide +kernel
theorem dX4_copy_0 : decode cX4_copy 0 = .ok (.iload_n 1, 1) := by decide +kernel
theorem dX4_copy_1 : decode cX4_copy 1 = .ok (.invokestatic 236, 3) := by decide +kernel
theorem dX4_copy_4 : decode cX4_copy 4 = .ok (.ifCond .eq 10, 3) := by decide +kernel
theorem dX4_copy_7 : decode cX4_copy 7 = .ok (.iload_n 3, 1) := by decide +kernel
theorem dX4_copy_8 : decode cX4_copy 8 = .ok (.invokestatic 236, 3) := by decide +kernel
theorem dX4_copy_11 : decode cX4_copy 11 = .ok (.ifCond .ne 10, 3) := by decide +kernel
theorem dX4_copy_14 : decode cX4_copy 14 = .ok (.aload_n 0, 1) := by decide +kernel
theorem dX4_copy_15 : decode cX4_copy 15 = .ok (.ldc 52, 2) := by decide +kernel
theorem dX4_copy_17 : decode cX4_copy 17 = .ok (.invokevirtual 53, 3) := by decide +kernel
theorem dX4_copy_20 : decode cX4_copy 20 = .ok (.ireturn, 1) := by decide +kernel
theorem dX4_copy_21 : decode cX4_copy 21 = .ok (.aload_n 0, 1) := by decide +kernel
theorem dX4_copy_22 : decode cX4_copy 22 = .ok (.getfield 39, 3) := by decide +kernel
theorem dX4_copy_25 : decode cX4_copy 25 = .ok (.iload_n 1, 1) := by decide +kernel
theorem dX4_copy_26 : decode cX4_copy 26 = .ok (.aaload, 1) := by decide +kernel
theorem dX4_copy_27 : decode cX4_copy 27 = .ok (.astore 6, 2) := by decide +kernel
theorem dX4_copy_29 : decode cX4_copy 29 = .ok (.aload_n 0, 1) := by decide +kernel
theorem dX4_copy_30 : decode cX4_copy 30 = .ok (.getfield 39, 3) := by decide +kernel
theorem dX4_copy_33 : decode cX4_copy 33 = .ok (.iload_n 3, 1) := by decide +kernel
theorem dX4_copy_34 : decode cX4_copy 34 = .ok (.aaload, 1) := by decide +kernel
theorem dX4_copy_35 : decode cX4_copy 35 = .ok (.astore 7, 2) := by decide +kernel
theorem dX4_copy_37 : decode cX4_copy 37 = .ok (.aload 6, 2) := by decide +kernel
theorem dX4_copy_39 : decode cX4_copy 39 = .ok (.getfield 251, 3) := by decide +kernel
theorem dX4_copy_42 : decode cX4_copy 42 = .ok (.ifCond .eq 11, 3) := by decide +kernel
theorem dX4_copy_45 : decode cX4_copy 45 = .ok (.aload 7, 2) := by decide +kernel
theorem dX4_copy_47 : decode cX4_copy 47 = .ok (.getfield 251, 3) := by decide +kernel
theorem dX4_copy_50 : decode cX4_copy 50 = .ok (.ifCond .ne 10, 3) := by decide +kernel
theorem dX4_copy_53 : decode cX4_copy 53 = .ok (.aload_n 0, 1) := by decide +kernel
theorem dX4_copy_54 : decode cX4_copy 54 = .ok (.ldc 230, 2) := by decide +kernel
theorem dX4_copy_56 : decode cX4_copy 56 = .ok (.invokevirtual 53, 3) := by decide +kernel
theorem dX4_copy_59 : decode cX4_copy 59 = .ok (.ireturn, 1) := by decide +kernel
theorem dX4_copy_60 : decode cX4_copy 60 = .ok (.aload 6, 2) := by decide +kernel
theorem dX4_copy_62 : decode cX4_copy 62 = .ok (.getfield 251, 3) := by decide +kernel
theorem dX4_copy_65 : decode cX4_copy 65 = .ok (.aload 7, 2) := by decide +kernel
theorem dX4_copy_67 : decode cX4_copy 67 = .ok (.getfield 251, 3) := by decide +kernel
theorem dX4_copy_70 : decode cX4_copy 70 = .ok (.if_icmp .eq 10, 3) := by decide +kernel
theorem dX4_copy_73 : decode cX4_copy 73 = .ok (.aload_n 0, 1) := by decide +kernel
theorem dX4_copy_74 : decode cX4_copy 74 = .ok (.ldc 235, 2) := by decide +kernel
theorem dX4_copy_76 : decode cX4_copy 76 = .ok (.invokevirtual 53, 3) := by decide +kernel
theorem dX4_copy_79 : decode cX4_copy 79 = .ok (.ireturn, 1) := by decide +kernel
theorem dX4_copy_80 : decode cX4_copy 80 = .ok (.aload 6, 2) := by decide +kernel
theorem dX4_copy_82 : decode cX4_copy 82 = .ok (.iload_n 2, 1) := by decide +kernel
theorem dX4_copy_83 : decode cX4_copy 83 = .ok (.iload 5, 2) := by decide +kernel
theorem dX4_copy_85 : decode cX4_copy 85 = .ok (.invokevirtual 246, 3) := by decide +kernel
theorem dX4_copy_88 : decode cX4_copy 88 = .ok (.ifCond .eq 15, 3) := by decide +kernel
theorem dX4_copy_91 : decode cX4_copy 91 = .ok (.aload 7, 2) := by decide +kernel
theorem dX4_copy_93 : decode cX4_copy 93 = .ok (.iload 4, 2) := by decide +kernel
theorem dX4_copy_95 : decode cX4_copy 95 = .ok (.iload 5, 2) := by decide +kernel
theorem dX4_copy_97 : decode cX4_copy 97 = .ok (.invokevirtual 246, 3) := by decide +kernel
theorem dX4_copy_100 : decode cX4_copy 100 = .ok (.ifCond .ne 10, 3) := by decide +kernel
theorem dX4_copy_103 : decode cX4_copy 103 = .ok (.aload_n 0, 1) := by decide +kernel
theorem dX4_copy_104 : decode cX4_copy 104 = .ok (.ldc 52, 2) := by decide +kernel
theorem dX4_copy_106 : decode cX4_copy 106 = .ok (.invokevirtual 53, 3) := by decide +kernel
theorem dX4_copy_109 : decode cX4_copy 109 = .ok (.ireturn, 1) := by decide +kernel
theorem dX4_copy_110 : decode cX4_copy 110 = .ok (.aload 6, 2) := by decide +kernel
theorem dX4_copy_112 : decode cX4_copy 112 = .ok (.getfield 254, 3) := by decide +kernel
theorem dX4_copy_115 : decode cX4_copy 115 = .ok (.iload_n 2, 1) := by decide +kernel
theorem dX4_copy_116 : decode cX4_copy 116 = .ok (.aload 7, 2) := by decide +kernel
theorem dX4_copy_118 : decode cX4_copy 118 = .ok (.getfield 254, 3) := by decide +kernel
theorem dX4_copy_121 : decode cX4_copy 121 = .ok (.iload 4, 2) := by decide +kernel
theorem dX4_copy_123 : decode cX4_copy 123 = .ok (.iload 5, 2) := by decide +kernel
theorem dX4_copy_125 : decode cX4_copy 125 = .ok (.invokestatic 257, 3) := by decide +kernel
theorem dX4_copy_128 : decode cX4_copy 128 = .ok (.iload 5, 2) := by decide +kernel
theorem dX4_copy_130 : decode cX4_copy 130 = .ok (.ireturn, 1) := by decide +kernel
theorem dX4_load_0 : decode cX4_load 0 = .ok (.aload_n 0, 1) := by decide +kernel
theorem dX4_load_1 : decode cX4_load 1 = .ok (.iload_n 1, 1) := by decide +kernel
theorem dX4_load_2 : decode cX4_load 2 = .ok (.invokevirtual 243, 3) := by decide +kernel
theorem dX4_load_5 : decode cX4_load 5 = .ok (.istore_n 2, 1) := by decide +kernel
theorem dX4_load_6 : decode cX4_load 6 = .ok (.iload_n 2, 1) := by decide +kernel
theorem dX4_load_7 : decode cX4_load 7 = .ok (.ifCond .eq 9, 3) := by decide +kernel
theorem dX4_load_10 : decode cX4_load 10 = .ok (.aload_n 0, 1) := by decide +kernel
theorem dX4_load_11 : decode cX4_load 11 = .ok (.iload_n 2, 1) := by decide +kernel
theorem dX4_load_12 : decode cX4_load 12 = .ok (.invokevirtual 53, 3) := by decide +kernel
theorem dX4_load_15 : decode cX4_load 15 = .ok (.ireturn, 1) := by decide +kernel
theorem dX4_load_16 : decode cX4_load 16 = .ok (.aload_n 0, 1) := by decide +kernel
theorem dX4_load_17 : decode cX4_load 17 = .ok (.getfield 39, 3) := by decide +kernel
theorem dX4_load_20 : decode cX4_load 20 = .ok (.iload_n 1, 1) := by decide +kernel
theorem dX4_load_21 : decode cX4_load 21 = .ok (.aaload, 1) := by decide +kernel
theorem dX4_load_22 : decode cX4_load 22 = .ok (.astore_n 3, 1) := by decide +kernel
theorem dX4_load_23 : decode cX4_load 23 = .ok (.iconst 0, 1) := by decide +kernel
theorem dX4_load_24 : decode cX4_load 24 = .ok (.istore 4, 2) := by decide +kernel
theorem dX4_load_26 : decode cX4_load 26 = .ok (.iload 4, 2) := by decide +kernel
theorem dX4_load_28 : decode cX4_load 28 = .ok (.aload_n 3, 1) := by decide +kernel
theorem dX4_load_29 : decode cX4_load 29 = .ok (.getfield 263, 3) := by decide +kernel
theorem dX4_load_32 : decode cX4_load 32 = .ok (.if_icmp .ge 46, 3) := by decide +kernel
theorem dX4_load_35 : decode cX4_load 35 = .ok (.aload_n 0, 1) := by decide +kernel
theorem dX4_load_36 : decode cX4_load 36 = .ok (.getfield 12, 3) := by decide +kernel
theorem dX4_load_39 : decode cX4_load 39 = .ok (.iload 4, 2) := by decide +kernel
theorem dX4_load_41 : decode cX4_load 41 = .ok (.iconst 2, 1) := by decide +kernel
theorem dX4_load_42 : decode cX4_load 42 = .ok (.aload_n 3, 1) := by decide +kernel
theorem dX4_load_43 : decode cX4_load 43 = .ok (.getfield 254, 3) := by decide +kernel
theorem dX4_load_46 : decode cX4_load 46 = .ok (.iload 4, 2) := by decide +kernel
theorem dX4_load_48 : decode cX4_load 48 = .ok (.iaload, 1) := by decide +kernel
theorem dX4_load_49 : decode cX4_load 49 = .ok (.invokevirtual 75, 3) := by decide +kernel
theorem dX4_load_52 : decode cX4_load 52 = .ok (.ifCond .eq 26, 3) := by decide +kernel
theorem dX4_load_55 : decode cX4_load 55 = .ok (.aload_n 0, 1) := by decide +kernel
theorem dX4_load_56 : decode cX4_load 56 = .ok (.getfield 12, 3) := by decide +kernel
theorem dX4_load_59 : decode cX4_load 59 = .ok (.getfield 106, 3) := by decide +kernel
theorem dX4_load_62 : decode cX4_load 62 = .ok (.iload 4, 2) := by decide +kernel
theorem dX4_load_64 : decode cX4_load 64 = .ok (.aload_n 3, 1) := by decide +kernel
theorem dX4_load_65 : decode cX4_load 65 = .ok (.getfield 254, 3) := by decide +kernel
theorem dX4_load_68 : decode cX4_load 68 = .ok (.iload 4, 2) := by decide +kernel
theorem dX4_load_70 : decode cX4_load 70 = .ok (.iaload, 1) := by decide +kernel
theorem dX4_load_71 : decode cX4_load 71 = .ok (.iastore, 1) := by decide +kernel
theorem dX4_load_72 : decode cX4_load 72 = .ok (.iinc 4 1, 3) := by decide +kernel
theorem dX4_load_75 : decode cX4_load 75 = .ok (.goto (-49), 3) := by decide +kernel
theorem dX4_load_78 : decode cX4_load 78 = .ok (.iload 4, 2) := by decide +kernel
theorem dX4_load_80 : decode cX4_load 80 = .ok (.ireturn, 1) := by decide +kernel
theorem dX4_judge_0 : decode cX4_judge 0 = .ok (.aload_n 0, 1) := by decide +kernel
theorem dX4_judge_1 : decode cX4_judge 1 = .ok (.iload_n 1, 1) := by decide +kernel
theorem dX4_judge_2 : decode cX4_judge 2 = .ok (.invokevirtual 243, 3) := by decide +kernel
theorem dX4_judge_5 : decode cX4_judge 5 = .ok (.istore_n 3, 1) := by decide +kernel
theorem dX4_judge_6 : decode cX4_judge 6 = .ok (.iload_n 3, 1) := by decide +kernel
theorem dX4_judge_7 : decode cX4_judge 7 = .ok (.ifCond .eq 9, 3) := by decide +kernel
theorem dX4_judge_10 : decode cX4_judge 10 = .ok (.aload_n 0, 1) := by decide +kernel
theorem dX4_judge_11 : decode cX4_judge 11 = .ok (.iload_n 3, 1) := by decide +kernel
theorem dX4_judge_12 : decode cX4_judge 12 = .ok (.invokevirtual 53, 3) := by decide +kernel
theorem dX4_judge_15 : decode cX4_judge 15 = .ok (.ireturn, 1) := by decide +kernel
theorem dX4_judge_16 : decode cX4_judge 16 = .ok (.aload_n 0, 1) := by decide +kernel
theorem dX4_judge_17 : decode cX4_judge 17 = .ok (.getfield 12, 3) := by decide +kernel
theorem dX4_judge_20 : decode cX4_judge 20 = .ok (.iload_n 2, 1) := by decide +kernel
theorem dX4_judge_21 : decode cX4_judge 21 = .ok (.invokevirtual 65, 3) := by decide +kernel
theorem dX4_judge_24 : decode cX4_judge 24 = .ok (.ifCond .ne 10, 3) := by decide +kernel
theorem dX4_judge_27 : decode cX4_judge 27 = .ok (.aload_n 0, 1) := by decide +kernel
theorem dX4_judge_28 : decode cX4_judge 28 = .ok (.ldc 52, 2) := by decide +kernel
theorem dX4_judge_30 : decode cX4_judge 30 = .ok (.invokevirtual 53, 3) := by decide +kernel
theorem dX4_judge_33 : decode cX4_judge 33 = .ok (.ireturn, 1) := by decide +kernel
theorem dX4_judge_34 : decode cX4_judge 34 = .ok (.aload_n 0, 1) := by decide +kernel
theorem dX4_judge_35 : decode cX4_judge 35 = .ok (.getfield 39, 3) := by decide +kernel
theorem dX4_judge_38 : decode cX4_judge 38 = .ok (.iload_n 1, 1) := by decide +kernel
theorem dX4_judge_39 : decode cX4_judge 39 = .ok (.aaload, 1) := by decide +kernel
theorem dX4_judge_40 : decode cX4_judge 40 = .ok (.astore 4, 2) := by decide +kernel
theorem dX4_judge_42 : decode cX4_judge 42 = .ok (.aload_n 0, 1) := by decide +kernel
theorem dX4_judge_43 : decode cX4_judge 43 = .ok (.getfield 12, 3) := by decide +kernel
theorem dX4_judge_46 : decode cX4_judge 46 = .ok (.getfield 99, 3) := by decide +kernel
theorem dX4_judge_49 : decode cX4_judge 49 = .ok (.aload 4, 2) := by decide +kernel
theorem dX4_judge_51 : decode cX4_judge 51 = .ok (.getfield 263, 3) := by decide +kernel
theorem dX4_judge_54 : decode cX4_judge 54 = .ok (.iadd, 1) := by decide +kernel
theorem dX4_judge_55 : decode cX4_judge 55 = .ok (.sipush 9999, 3) := by decide +kernel
theorem dX4_judge_58 : decode cX4_judge 58 = .ok (.if_icmp .le 10, 3) := by decide +kernel
theorem dX4_judge_61 : decode cX4_judge 61 = .ok (.aload_n 0, 1) := by decide +kernel
theorem dX4_judge_62 : decode cX4_judge 62 = .ok (.ldc 119, 2) := by decide +kernel
theorem dX4_judge_64 : decode cX4_judge 64 = .ok (.invokevirtual 53, 3) := by decide +kernel
theorem dX4_judge_67 : decode cX4_judge 67 = .ok (.ireturn, 1) := by decide +kernel
theorem dX4_judge_68 : decode cX4_judge 68 = .ok (.aload_n 0, 1) := by decide +kernel
theorem dX4_judge_69 : decode cX4_judge 69 = .ok (.invokevirtual 120, 3) := by decide +kernel
theorem dX4_judge_72 : decode cX4_judge 72 = .ok (.iconst 0, 1) := by decide +kernel
theorem dX4_judge_73 : decode cX4_judge 73 = .ok (.istore 5, 2) := by decide +kernel
theorem dX4_judge_75 : decode cX4_judge 75 = .ok (.iload 5, 2) := by decide +kernel
theorem dX4_judge_77 : decode cX4_judge 77 = .ok (.aload 4, 2) := by decide +kernel
theorem dX4_judge_79 : decode cX4_judge 79 = .ok (.getfield 263, 3) := by decide +kernel
theorem dX4_judge_82 : decode cX4_judge 82 = .ok (.if_icmp .ge 42, 3) := by decide +kernel
theorem dX4_judge_85 : decode cX4_judge 85 = .ok (.aload_n 0, 1) := by decide +kernel
theorem dX4_judge_86 : decode cX4_judge 86 = .ok (.getfield 16, 3) := by decide +kernel
theorem dX4_judge_89 : decode cX4_judge 89 = .ok (.invokevirtual 134, 3) := by decide +kernel
theorem dX4_judge_92 : decode cX4_judge 92 = .ok (.pop, 1) := by decide +kernel
theorem dX4_judge_93 : decode cX4_judge 93 = .ok (.aload_n 0, 1) := by decide +kernel
theorem dX4_judge_94 : decode cX4_judge 94 = .ok (.getfield 16, 3) := by decide +kernel
theorem dX4_judge_97 : decode cX4_judge 97 = .ok (.getfield 113, 3) := by decide +kernel
theorem dX4_judge_100 : decode cX4_judge 100 = .ok (.iload_n 2, 1) := by decide +kernel
theorem dX4_judge_101 : decode cX4_judge 101 = .ok (.iaload, 1) := by decide +kernel
theorem dX4_judge_102 : decode cX4_judge 102 = .ok (.aload 4, 2) := by decide +kernel
theorem dX4_judge_104 : decode cX4_judge 104 = .ok (.getfield 254, 3) := by decide +kernel
theorem dX4_judge_107 : decode cX4_judge 107 = .ok (.iload 5, 2) := by decide +kernel
theorem dX4_judge_109 : decode cX4_judge 109 = .ok (.iaload, 1) := by decide +kernel
theorem dX4_judge_110 : decode cX4_judge 110 = .ok (.if_icmp .eq 8, 3) := by decide +kernel
theorem dX4_judge_113 : decode cX4_judge 113 = .ok (.iconst 1, 1) := by decide +kernel
theorem dX4_judge_114 : decode cX4_judge 114 = .ok (.iload 5, 2) := by decide +kernel
theorem dX4_judge_116 : decode cX4_judge 116 = .ok (.iadd, 1) := by decide +kernel
theorem dX4_judge_117 : decode cX4_judge 117 = .ok (.ireturn, 1) := by decide +kernel
theorem dX4_judge_118 : decode cX4_judge 118 = .ok (.iinc 5 1, 3) := by decide +kernel
theorem dX4_judge_121 : decode cX4_judge 121 = .ok (.goto (-46), 3) := by decide +kernel
theorem dX4_judge_124 : decode cX4_judge 124 = .ok (.iconst 0, 1) := by decide +kernel
theorem dX4_judge_125 : decode cX4_judge 125 = .ok (.ireturn, 1) := by decide +kernel
theorem dX4_image_0 : decode cX4_image 0 = .ok (.aload_n 0, 1) := by decide +kernel
theorem dX4_image_1 : decode cX4_image 1 = .ok (.getfield 22, 3) := by decide +kernel
theorem dX4_image_4 : decode cX4_image 4 = .ok (.aload_n 0, 1) := by decide +kernel
theorem dX4_image_5 : decode cX4_image 5 = .ok (.getfield 12, 3) := by decide +kernel
theorem dX4_image_8 : decode cX4_image 8 = .ok (.invokevirtual 145, 3) := by decide +kernel
theorem dX4_image_11 : decode cX4_image 11 = .ok (.aload_n 0, 1) := by decide +kernel
theorem dX4_image_12 : decode cX4_image 12 = .ok (.iconst 1, 1) := by decide +kernel
theorem dX4_image_13 : decode cX4_image 13 = .ok (.putfield 264, 3) := by decide +kernel
theorem dX4_image_16 : decode cX4_image 16 = .ok (.iconst 1, 1) := by decide +kernel
theorem dX4_image_17 : decode cX4_image 17 = .ok (.ireturn, 1) := by decide +kernel
theorem dX4_undo_0 : decode cX4_undo 0 = .ok (.aload_n 0, 1) := by decide +kernel
theorem dX4_undo_1 : decode cX4_undo 1 = .ok (.getfield 264, 3) := by decide +kernel
theorem dX4_undo_4 : decode cX4_undo 4 = .ok (.ifCond .ne 10, 3) := by decide +kernel
theorem dX4_undo_7 : decode cX4_undo 7 = .ok (.aload_n 0, 1) := by decide +kernel
theorem dX4_undo_8 : decode cX4_undo 8 = .ok (.ldc 137, 2) := by decide +kernel
theorem dX4_undo_10 : decode cX4_undo 10 = .ok (.invokevirtual 53, 3) := by decide +kernel
theorem dX4_undo_13 : decode cX4_undo 13 = .ok (.ireturn, 1) := by decide +kernel
theorem dX4_undo_14 : decode cX4_undo 14 = .ok (.aload_n 0, 1) := by decide +kernel
theorem dX4_undo_15 : decode cX4_undo 15 = .ok (.getfield 12, 3) := by decide +kernel
theorem dX4_undo_18 : decode cX4_undo 18 = .ok (.aload_n 0, 1) := by decide +kernel
theorem dX4_undo_19 : decode cX4_undo 19 = .ok (.getfield 22, 3) := by decide +kernel
theorem dX4_undo_22 : decode cX4_undo 22 = .ok (.invokevirtual 145, 3) := by decide +kernel
theorem dX4_undo_25 : decode cX4_undo 25 = .ok (.aload_n 0, 1) := by decide +kernel
theorem dX4_undo_26 : decode cX4_undo 26 = .ok (.getfield 12, 3) := by decide +kernel
theorem dX4_undo_29 : decode cX4_undo 29 = .ok (.getfield 99, 3) := by decide +kernel
theorem dX4_undo_32 : decode cX4_undo 32 = .ok (.ireturn, 1) := by decide +kernel
theorem dX4_tear_0 : decode cX4_tear 0 = .ok (.aload_n 0, 1) := by decide +kernel
theorem dX4_tear_1 : decode cX4_tear 1 = .ok (.getfield 264, 3) := by decide +kernel
theorem dX4_tear_4 : decode cX4_tear 4 = .ok (.ifCond .eq 7, 3) := by decide +kernel
theorem dX4_tear_7 : decode cX4_tear 7 = .ok (.iconst 1, 1) := by decide +kernel
theorem dX4_tear_8 : decode cX4_tear 8 = .ok (.goto 4, 3) := by decide +kernel
theorem dX4_tear_11 : decode cX4_tear 11 = .ok (.iconst 0, 1) := by decide +kernel
theorem dX4_tear_12 : decode cX4_tear 12 = .ok (.istore_n 1, 1) := by decide +kernel
theorem dX4_tear_13 : decode cX4_tear 13 = .ok (.aload_n 0, 1) := by decide +kernel
theorem dX4_tear_14 : decode cX4_tear 14 = .ok (.iconst 0, 1) := by decide +kernel
theorem dX4_tear_15 : decode cX4_tear 15 = .ok (.putfield 264, 3) := by decide +kernel
theorem dX4_tear_18 : decode cX4_tear 18 = .ok (.iload_n 1, 1) := by decide +kernel
theorem dX4_tear_19 : decode cX4_tear 19 = .ok (.ireturn, 1) := by decide +kernel
theorem dX4_count_0 : decode cX4_count 0 = .ok (.iload_n 1, 1) := by decide +kernel
theorem dX4_count_1 : decode cX4_count 1 = .ok (.tableswitch 132 0 7 #[47, 55, 63, 78, 93, 108, 116, 124], 47) := by decide +kernel
theorem dX4_count_48 : decode cX4_count 48 = .ok (.aload_n 0, 1) := by decide +kernel
theorem dX4_count_49 : decode cX4_count 49 = .ok (.getfield 12, 3) := by decide +kernel
theorem dX4_count_52 : decode cX4_count 52 = .ok (.getfield 99, 3) := by decide +kernel
theorem dX4_count_55 : decode cX4_count 55 = .ok (.ireturn, 1) := by decide +kernel
theorem dX4_count_56 : decode cX4_count 56 = .ok (.aload_n 0, 1) := by decide +kernel
theorem dX4_count_57 : decode cX4_count 57 = .ok (.getfield 12, 3) := by decide +kernel
theorem dX4_count_60 : decode cX4_count 60 = .ok (.getfield 57, 3) := by decide +kernel
theorem dX4_count_63 : decode cX4_count 63 = .ok (.ireturn, 1) := by decide +kernel
theorem dX4_count_64 : decode cX4_count 64 = .ok (.aload_n 0, 1) := by decide +kernel
theorem dX4_count_65 : decode cX4_count 65 = .ok (.getfield 12, 3) := by decide +kernel
theorem dX4_count_68 : decode cX4_count 68 = .ok (.aload_n 0, 1) := by decide +kernel
theorem dX4_count_69 : decode cX4_count 69 = .ok (.getfield 12, 3) := by decide +kernel
theorem dX4_count_72 : decode cX4_count 72 = .ok (.getfield 106, 3) := by decide +kernel
theorem dX4_count_75 : decode cX4_count 75 = .ok (.invokevirtual 109, 3) := by decide +kernel
theorem dX4_count_78 : decode cX4_count 78 = .ok (.ireturn, 1) := by decide +kernel
theorem dX4_count_79 : decode cX4_count 79 = .ok (.aload_n 0, 1) := by decide +kernel
theorem dX4_count_80 : decode cX4_count 80 = .ok (.getfield 12, 3) := by decide +kernel
theorem dX4_count_83 : decode cX4_count 83 = .ok (.aload_n 0, 1) := by decide +kernel
theorem dX4_count_84 : decode cX4_count 84 = .ok (.getfield 12, 3) := by decide +kernel
theorem dX4_count_87 : decode cX4_count 87 = .ok (.getfield 113, 3) := by decide +kernel
theorem dX4_count_90 : decode cX4_count 90 = .ok (.invokevirtual 109, 3) := by decide +kernel
theorem dX4_count_93 : decode cX4_count 93 = .ok (.ireturn, 1) := by decide +kernel
theorem dX4_count_94 : decode cX4_count 94 = .ok (.aload_n 0, 1) := by decide +kernel
theorem dX4_count_95 : decode cX4_count 95 = .ok (.getfield 12, 3) := by decide +kernel
theorem dX4_count_98 : decode cX4_count 98 = .ok (.aload_n 0, 1) := by decide +kernel
theorem dX4_count_99 : decode cX4_count 99 = .ok (.getfield 12, 3) := by decide +kernel
theorem dX4_count_102 : decode cX4_count 102 = .ok (.getfield 204, 3) := by decide +kernel
theorem dX4_count_105 : decode cX4_count 105 = .ok (.invokevirtual 109, 3) := by decide +kernel
theorem dX4_count_108 : decode cX4_count 108 = .ok (.ireturn, 1) := by decide +kernel
theorem dX4_count_109 : decode cX4_count 109 = .ok (.aload_n 0, 1) := by decide +kernel
theorem dX4_count_110 : decode cX4_count 110 = .ok (.getfield 36, 3) := by decide +kernel
theorem dX4_count_113 : decode cX4_count 113 = .ok (.getfield 213, 3) := by decide +kernel
theorem dX4_count_116 : decode cX4_count 116 = .ok (.ireturn, 1) := by decide +kernel
theorem dX4_count_117 : decode cX4_count 117 = .ok (.aload_n 0, 1) := by decide +kernel
theorem dX4_count_118 : decode cX4_count 118 = .ok (.getfield 12, 3) := by decide +kernel
theorem dX4_count_121 : decode cX4_count 121 = .ok (.getfield 210, 3) := by decide +kernel
theorem dX4_count_124 : decode cX4_count 124 = .ok (.ireturn, 1) := by decide +kernel
theorem dX4_count_125 : decode cX4_count 125 = .ok (.aload_n 0, 1) := by decide +kernel
theorem dX4_count_126 : decode cX4_count 126 = .ok (.getfield 12, 3) := by decide +kernel
theorem dX4_count_129 : decode cX4_count 129 = .ok (.invokevirtual 268, 3) := by decide +kernel
theorem dX4_count_132 : decode cX4_count 132 = .ok (.ireturn, 1) := by decide +kernel
theorem dX4_count_133 : decode cX4_count 133 = .ok (.aload_n 0, 1) := by decide +kernel
theorem dX4_count_134 : decode cX4_count 134 = .ok (.ldc 52, 2) := by decide +kernel
theorem dX4_count_136 : decode cX4_count 136 = .ok (.invokevirtual 53, 3) := by decide +kernel
theorem dX4_count_139 : decode cX4_count 139 = .ok (.ireturn, 1) := by decide +kernel
theorem dX4_status_0 : decode cX4_status 0 = .ok (.iload_n 1, 1) := by decide +kernel
theorem dX4_status_1 : decode cX4_status 1 = .ok (.iconst (-1), 1) := by decide +kernel
theorem dX4_status_2 : decode cX4_status 2 = .ok (.if_icmp .lt 9, 3) := by decide +kernel
theorem dX4_status_5 : decode cX4_status 5 = .ok (.iload_n 1, 1) := by decide +kernel
theorem dX4_status_6 : decode cX4_status 6 = .ok (.bipush 7, 2) := by decide +kernel
theorem dX4_status_8 : decode cX4_status 8 = .ok (.if_icmp .lt 10, 3) := by decide +kernel
theorem dX4_status_11 : decode cX4_status 11 = .ok (.aload_n 0, 1) := by decide +kernel
theorem dX4_status_12 : decode cX4_status 12 = .ok (.ldc 52, 2) := by decide +kernel
theorem dX4_status_14 : decode cX4_status 14 = .ok (.invokevirtual 53, 3) := by decide +kernel
theorem dX4_status_17 : decode cX4_status 17 = .ok (.ireturn, 1) := by decide +kernel
theorem dX4_status_18 : decode cX4_status 18 = .ok (.iload_n 1, 1) := by decide +kernel
theorem dX4_status_19 : decode cX4_status 19 = .ok (.ifCond .lt 10, 3) := by decide +kernel
theorem dX4_status_22 : decode cX4_status 22 = .ok (.aload_n 0, 1) := by decide +kernel
theorem dX4_status_23 : decode cX4_status 23 = .ok (.getfield 43, 3) := by decide +kernel
theorem dX4_status_26 : decode cX4_status 26 = .ok (.iload_n 1, 1) := by decide +kernel
theorem dX4_status_27 : decode cX4_status 27 = .ok (.iaload, 1) := by decide +kernel
theorem dX4_status_28 : decode cX4_status 28 = .ok (.ireturn, 1) := by decide +kernel
theorem dX4_status_29 : decode cX4_status 29 = .ok (.iconst 0, 1) := by decide +kernel
theorem dX4_status_30 : decode cX4_status 30 = .ok (.istore_n 2, 1) := by decide +kernel
theorem dX4_status_31 : decode cX4_status 31 = .ok (.iconst 0, 1) := by decide +kernel
theorem dX4_status_32 : decode cX4_status 32 = .ok (.istore_n 3, 1) := by decide +kernel
theorem dX4_status_33 : decode cX4_status 33 = .ok (.iload_n 3, 1) := by decide +kernel
theorem dX4_status_34 : decode cX4_status 34 = .ok (.bipush 7, 2) := by decide +kernel
theorem dX4_status_36 : decode cX4_status 36 = .ok (.if_icmp .ge 18, 3) := by decide +kernel
theorem dX4_status_39 : decode cX4_status 39 = .ok (.iload_n 2, 1) := by decide +kernel
theorem dX4_status_40 : decode cX4_status 40 = .ok (.aload_n 0, 1) := by decide +kernel
theorem dX4_status_41 : decode cX4_status 41 = .ok (.getfield 43, 3) := by decide +kernel
theorem dX4_status_44 : decode cX4_status 44 = .ok (.iload_n 3, 1) := by decide +kernel
theorem dX4_status_45 : decode cX4_status 45 = .ok (.iaload, 1) := by decide +kernel
theorem dX4_status_46 : decode cX4_status 46 = .ok (.iadd, 1) := by decide +kernel
theorem dX4_status_47 : decode cX4_status 47 = .ok (.istore_n 2, 1) := by decide +kernel
theorem dX4_status_48 : decode cX4_status 48 = .ok (.iinc 3 1, 3) := by decide +kernel
theorem dX4_status_51 : decode cX4_status 51 = .ok (.goto (-18), 3) := by decide +kernel
theorem dX4_status_54 : decode cX4_status 54 = .ok (.iload_n 2, 1) := by decide +kernel
theorem dX4_status_55 : decode cX4_status 55 = .ok (.ireturn, 1) := by decide +kernel
theorem dX4_tell_0 : decode cX4_tell 0 = .ok (.ldc 52, 2) := by decide +kernel
theorem dX4_tell_2 : decode cX4_tell 2 = .ok (.iload_n 1, 1) := by decide +kernel
theorem dX4_tell_3 : decode cX4_tell 3 = .ok (.isub, 1) := by decide +kernel
theorem dX4_tell_4 : decode cX4_tell 4 = .ok (.istore_n 2, 1) := by decide +kernel
theorem dX4_tell_5 : decode cX4_tell 5 = .ok (.iload_n 2, 1) := by decide +kernel
theorem dX4_tell_6 : decode cX4_tell 6 = .ok (.ifCond .lt 19, 3) := by decide +kernel
theorem dX4_tell_9 : decode cX4_tell 9 = .ok (.iload_n 2, 1) := by decide +kernel
theorem dX4_tell_10 : decode cX4_tell 10 = .ok (.bipush 7, 2) := by decide +kernel
theorem dX4_tell_12 : decode cX4_tell 12 = .ok (.if_icmp .ge 13, 3) := by decide +kernel
theorem dX4_tell_15 : decode cX4_tell 15 = .ok (.aload_n 0, 1) := by decide +kernel
theorem dX4_tell_16 : decode cX4_tell 16 = .ok (.getfield 43, 3) := by decide +kernel
theorem dX4_tell_19 : decode cX4_tell 19 = .ok (.iload_n 2, 1) := by decide +kernel
theorem dX4_tell_20 : decode cX4_tell 20 = .ok (.dup2, 1) := by decide +kernel
theorem dX4_tell_21 : decode cX4_tell 21 = .ok (.iaload, 1) := by decide +kernel
theorem dX4_tell_22 : decode cX4_tell 22 = .ok (.iconst 1, 1) := by decide +kernel
theorem dX4_tell_23 : decode cX4_tell 23 = .ok (.iadd, 1) := by decide +kernel
theorem dX4_tell_24 : decode cX4_tell 24 = .ok (.iastore, 1) := by decide +kernel
theorem dX4_tell_25 : decode cX4_tell 25 = .ok (.iload_n 1, 1) := by decide +kernel
theorem dX4_tell_26 : decode cX4_tell 26 = .ok (.ireturn, 1) := by decide +kernel
theorem dX4_findingOfHours_0 : decode cX4_findingOfHours 0 = .ok (.iload_n 1, 1) := by decide +kernel
theorem dX4_findingOfHours_1 : decode cX4_findingOfHours 1 = .ok (.iconst 1, 1) := by decide +kernel
theorem dX4_findingOfHours_2 : decode cX4_findingOfHours 2 = .ok (.if_icmp .lt 8, 3) := by decide +kernel
theorem dX4_findingOfHours_5 : decode cX4_findingOfHours 5 = .ok (.iload_n 1, 1) := by decide +kernel
theorem dX4_findingOfHours_6 : decode cX4_findingOfHours 6 = .ok (.iload_n 2, 1) := by decide +kernel
theorem dX4_findingOfHours_7 : decode cX4_findingOfHours 7 = .ok (.if_icmp .le 6, 3) := by decide +kernel
theorem dX4_findingOfHours_10 : decode cX4_findingOfHours 10 = .ok (.ldc 52, 2) := by decide +kernel
theorem dX4_findingOfHours_12 : decode cX4_findingOfHours 12 = .ok (.ireturn, 1) := by decide +kernel
theorem dX4_findingOfHours_13 : decode cX4_findingOfHours 13 = .ok (.aload_n 0, 1) := by decide +kernel
theorem dX4_findingOfHours_14 : decode cX4_findingOfHours 14 = .ok (.getfield 12, 3) := by decide +kernel
theorem dX4_findingOfHours_17 : decode cX4_findingOfHours 17 = .ok (.getfield 99, 3) := by decide +kernel
theorem dX4_findingOfHours_20 : decode cX4_findingOfHours 20 = .ok (.iload_n 1, 1) := by decide +kernel
theorem dX4_findingOfHours_21 : decode cX4_findingOfHours 21 = .ok (.iadd, 1) := by decide +kernel
theorem dX4_findingOfHours_22 : decode cX4_findingOfHours 22 = .ok (.sipush 9999, 3) := by decide +kernel
theorem dX4_findingOfHours_25 : decode cX4_findingOfHours 25 = .ok (.if_icmp .le 8, 3) := by decide +kernel
theorem dX4_findingOfHours_28 : decode cX4_findingOfHours 28 = .ok (.ldc 119, 2) := by decide +kernel
theorem dX4_findingOfHours_30 : decode cX4_findingOfHours 30 = .ok (.goto 4, 3) := by decide +kernel
theorem dX4_findingOfHours_33 : decode cX4_findingOfHours 33 = .ok (.iconst 0, 1) := by decide +kernel
theorem dX4_findingOfHours_34 : decode cX4_findingOfHours 34 = .ok (.ireturn, 1) := by decide +kernel
theorem dX4_isLate_0 : decode cX4_isLate 0 = .ok (.aload_n 0, 1) := by decide +kernel
theorem dX4_isLate_1 : decode cX4_isLate 1 = .ok (.getfield 12, 3) := by decide +kernel
theorem dX4_isLate_4 : decode cX4_isLate 4 = .ok (.getfield 99, 3) := by decide +kernel
theorem dX4_isLate_7 : decode cX4_isLate 7 = .ok (.bipush 100, 2) := by decide +kernel
theorem dX4_isLate_9 : decode cX4_isLate 9 = .ok (.iadd, 1) := by decide +kernel
theorem dX4_isLate_10 : decode cX4_isLate 10 = .ok (.sipush 9999, 3) := by decide +kernel
theorem dX4_isLate_13 : decode cX4_isLate 13 = .ok (.if_icmp .le 7, 3) := by decide +kernel
theorem dX4_isLate_16 : decode cX4_isLate 16 = .ok (.iconst 1, 1) := by decide +kernel
theorem dX4_isLate_17 : decode cX4_isLate 17 = .ok (.goto 4, 3) := by decide +kernel
theorem dX4_isLate_20 : decode cX4_isLate 20 = .ok (.iconst 0, 1) := by decide +kernel
theorem dX4_isLate_21 : decode cX4_isLate 21 = .ok (.ireturn, 1) := by decide +kernel
theorem dX4_findingOfRoomAhead_0 : decode cX4_findingOfRoomAhead 0 = .ok (.aload_n 0, 1) := by decide +kernel
theorem dX4_findingOfRoomAhead_1 : decode cX4_findingOfRoomAhead 1 = .ok (.getfield 12, 3) := by decide +kernel
theorem dX4_findingOfRoomAhead_4 : decode cX4_findingOfRoomAhead 4 = .ok (.iload_n 1, 1) := by decide +kernel
theorem dX4_findingOfRoomAhead_5 : decode cX4_findingOfRoomAhead 5 = .ok (.invokevirtual 65, 3) := by decide +kernel
theorem dX4_findingOfRoomAhead_8 : decode cX4_findingOfRoomAhead 8 = .ok (.ifCond .eq 13, 3) := by decide +kernel
theorem dX4_findingOfRoomAhead_11 : decode cX4_findingOfRoomAhead 11 = .ok (.aload_n 0, 1) := by decide +kernel
theorem dX4_findingOfRoomAhead_12 : decode cX4_findingOfRoomAhead 12 = .ok (.iload_n 2, 1) := by decide +kernel
theorem dX4_findingOfRoomAhead_13 : decode cX4_findingOfRoomAhead 13 = .ok (.bipush 60, 2) := by decide +kernel
theorem dX4_findingOfRoomAhead_15 : decode cX4_findingOfRoomAhead 15 = .ok (.invokevirtual 92, 3) := by decide +kernel
theorem dX4_findingOfRoomAhead_18 : decode cX4_findingOfRoomAhead 18 = .ok (.goto 5, 3) := by decide +kernel
theorem dX4_findingOfRoomAhead_21 : decode cX4_findingOfRoomAhead 21 = .ok (.ldc 52, 2) := by decide +kernel
theorem dX4_findingOfRoomAhead_23 : decode cX4_findingOfRoomAhead 23 = .ok (.ireturn, 1) := by decide +kernel
theorem dX4_findingOfPairs_0 : decode cX4_findingOfPairs 0 = .ok (.aload_n 0, 1) := by decide +kernel
theorem dX4_findingOfPairs_1 : decode cX4_findingOfPairs 1 = .ok (.iload_n 1, 1) := by decide +kernel
theorem dX4_findingOfPairs_2 : decode cX4_findingOfPairs 2 = .ok (.bipush 24, 2) := by decide +kernel
theorem dX4_findingOfPairs_4 : decode cX4_findingOfPairs 4 = .ok (.invokevirtual 92, 3) := by decide +kernel
theorem dX4_findingOfPairs_7 : decode cX4_findingOfPairs 7 = .ok (.istore_n 2, 1) := by decide +kernel
theorem dX4_findingOfPairs_8 : decode cX4_findingOfPairs 8 = .ok (.iload_n 2, 1) := by decide +kernel
theorem dX4_findingOfPairs_9 : decode cX4_findingOfPairs 9 = .ok (.ifCond .ne 18, 3) := by decide +kernel
theorem dX4_findingOfPairs_12 : decode cX4_findingOfPairs 12 = .ok (.aload_n 0, 1) := by decide +kernel
theorem dX4_findingOfPairs_13 : decode cX4_findingOfPairs 13 = .ok (.getfield 12, 3) := by decide +kernel
theorem dX4_findingOfPairs_16 : decode cX4_findingOfPairs 16 = .ok (.getfield 57, 3) := by decide +kernel
theorem dX4_findingOfPairs_19 : decode cX4_findingOfPairs 19 = .ok (.ifCond .ne 8, 3) := by decide +kernel
theorem dX4_findingOfPairs_22 : decode cX4_findingOfPairs 22 = .ok (.ldc 119, 2) := by decide +kernel
theorem dX4_findingOfPairs_24 : decode cX4_findingOfPairs 24 = .ok (.goto 4, 3) := by decide +kernel
theorem dX4_findingOfPairs_27 : decode cX4_findingOfPairs 27 = .ok (.iload_n 2, 1) := by decide +kernel
theorem dX4_findingOfPairs_28 : decode cX4_findingOfPairs 28 = .ok (.ireturn, 1) := by decide +kernel
theorem dX4_findingOfSheet_0 : decode cX4_findingOfSheet 0 = .ok (.iload_n 1, 1) := by decide +kernel
theorem dX4_findingOfSheet_1 : decode cX4_findingOfSheet 1 = .ok (.invokestatic 236, 3) := by decide +kernel
theorem dX4_findingOfSheet_4 : decode cX4_findingOfSheet 4 = .ok (.ifCond .ne 6, 3) := by decide +kernel
theorem dX4_findingOfSheet_7 : decode cX4_findingOfSheet 7 = .ok (.ldc 52, 2) := by decide +kernel
theorem dX4_findingOfSheet_9 : decode cX4_findingOfSheet 9 = .ok (.ireturn, 1) := by decide +kernel
theorem dX4_findingOfSheet_10 : decode cX4_findingOfSheet 10 = .ok (.aload_n 0, 1) := by decide +kernel
theorem dX4_findingOfSheet_11 : decode cX4_findingOfSheet 11 = .ok (.getfield 39, 3) := by decide +kernel
theorem dX4_findingOfSheet_14 : decode cX4_findingOfSheet 14 = .ok (.iload_n 1, 1) := by decide +kernel
theorem dX4_findingOfSheet_15 : decode cX4_findingOfSheet 15 = .ok (.aaload, 1) := by decide +kernel
theorem dX4_findingOfSheet_16 : decode cX4_findingOfSheet 16 = .ok (.getfield 251, 3) := by decide +kernel
theorem dX4_findingOfSheet_19 : decode cX4_findingOfSheet 19 = .ok (.ifCond .ne 8, 3) := by decide +kernel
theorem dX4_findingOfSheet_22 : decode cX4_findingOfSheet 22 = .ok (.ldc 230, 2) := by decide +kernel
theorem dX4_findingOfSheet_24 : decode cX4_findingOfSheet 24 = .ok (.goto 4, 3) := by decide +kernel
theorem dX4_findingOfSheet_27 : decode cX4_findingOfSheet 27 = .ok (.iconst 0, 1) := by decide +kernel
theorem dX4_findingOfSheet_28 : decode cX4_findingOfSheet 28 = .ok (.ireturn, 1) := by decide +kernel
theorem dX4_isKind_0 : decode cX4_isKind 0 = .ok (.iload_n 0, 1) := by decide +kernel
theorem dX4_isKind_1 : decode cX4_isKind 1 = .ok (.ifCond .lt 13, 3) := by decide +kernel
theorem dX4_isKind_4 : decode cX4_isKind 4 = .ok (.iload_n 0, 1) := by decide +kernel
theorem dX4_isKind_5 : decode cX4_isKind 5 = .ok (.bipush 6, 2) := by decide +kernel
theorem dX4_isKind_7 : decode cX4_isKind 7 = .ok (.if_icmp .gt 7, 3) := by decide +kernel
theorem dX4_isKind_10 : decode cX4_isKind 10 = .ok (.iconst 1, 1) := by decide +kernel
theorem dX4_isKind_11 : decode cX4_isKind 11 = .ok (.goto 4, 3) := by decide +kernel
theorem dX4_isKind_14 : decode cX4_isKind 14 = .ok (.iconst 0, 1) := by decide +kernel
theorem dX4_isKind_15 : decode cX4_isKind 15 = .ok (.ireturn, 1) := by decide +kernel
theorem dX4_isSpot_0 : decode cX4_isSpot 0 = .ok (.iload_n 0, 1) := by decide +kernel
theorem dX4_isSpot_1 : decode cX4_isSpot 1 = .ok (.ifCond .lt 13, 3) := by decide +kernel
theorem dX4_isSpot_4 : decode cX4_isSpot 4 = .ok (.iload_n 0, 1) := by decide +kernel
theorem dX4_isSpot_5 : decode cX4_isSpot 5 = .ok (.bipush 10, 2) := by decide +kernel
theorem dX4_isSpot_7 : decode cX4_isSpot 7 = .ok (.if_icmp .ge 7, 3) := by decide +kernel
theorem dX4_isSpot_10 : decode cX4_isSpot 10 = .ok (.iconst 1, 1) := by decide +kernel
theorem dX4_isSpot_11 : decode cX4_isSpot 11 = .ok (.goto 4, 3) := by decide +kernel
theorem dX4_isSpot_14 : decode cX4_isSpot 14 = .ok (.iconst 0, 1) := by decide +kernel
theorem dX4_isSpot_15 : decode cX4_isSpot 15 = .ok (.ireturn, 1) := by decide +kernel
theorem dX4_isSheet_0 : decode cX4_isSheet 0 = .ok (.iload_n 0, 1) := by decide +kernel
theorem dX4_isSheet_1 : decode cX4_isSheet 1 = .ok (.ifCond .lt 12, 3) := by decide +kernel
theorem dX4_isSheet_4 : decode cX4_isSheet 4 = .ok (.iload_n 0, 1) := by decide +kernel
theorem dX4_isSheet_5 : decode cX4_isSheet 5 = .ok (.iconst 4, 1) := by decide +kernel
theorem dX4_isSheet_6 : decode cX4_isSheet 6 = .ok (.if_icmp .ge 7, 3) := by decide +kernel
theorem dX4_isSheet_9 : decode cX4_isSheet 9 = .ok (.iconst 1, 1) := by decide +kernel
theorem dX4_isSheet_10 : decode cX4_isSheet 10 = .ok (.goto 4, 3) := by decide +kernel
theorem dX4_isSheet_13 : decode cX4_isSheet 13 = .ok (.iconst 0, 1) := by decide +kernel
theorem dX4_isSheet_14 : decode cX4_isSheet 14 = .ok (.ireturn, 1) := by decide +kernel
theorem dX4_startTrial_0 : decode cX4_startTrial 0 = .ok (.aload_n 0, 1) := by decide +kernel
theorem dX4_startTrial_1 : decode cX4_startTrial 1 = .ok (.getfield 16, 3) := by decide +kernel
theorem dX4_startTrial_4 : decode cX4_startTrial 4 = .ok (.aload_n 0, 1) := by decide +kernel
theorem dX4_startTrial_5 : decode cX4_startTrial 5 = .ok (.getfield 12, 3) := by decide +kernel
theorem dX4_startTrial_8 : decode cX4_startTrial 8 = .ok (.invokevirtual 145, 3) := by decide +kernel
theorem dX4_startTrial_11 : decode cX4_startTrial 11 = .ok (.return_, 1) := by decide +kernel
theorem dX4_goAsItGoes_0 : decode cX4_goAsItGoes 0 = .ok (.aload_n 0, 1) := by decide +kernel
theorem dX4_goAsItGoes_1 : decode cX4_goAsItGoes 1 = .ok (.getfield 19, 3) := by decide +kernel
theorem dX4_goAsItGoes_4 : decode cX4_goAsItGoes 4 = .ok (.aload_n 0, 1) := by decide +kernel
theorem dX4_goAsItGoes_5 : decode cX4_goAsItGoes 5 = .ok (.getfield 12, 3) := by decide +kernel
theorem dX4_goAsItGoes_8 : decode cX4_goAsItGoes 8 = .ok (.invokevirtual 145, 3) := by decide +kernel
theorem dX4_goAsItGoes_11 : decode cX4_goAsItGoes 11 = .ok (.aload_n 0, 1) := by decide +kernel
theorem dX4_goAsItGoes_12 : decode cX4_goAsItGoes 12 = .ok (.getfield 19, 3) := by decide +kernel
theorem dX4_goAsItGoes_15 : decode cX4_goAsItGoes 15 = .ok (.iload_n 1, 1) := by decide +kernel
theorem dX4_goAsItGoes_16 : decode cX4_goAsItGoes 16 = .ok (.invokevirtual 96, 3) := by decide +kernel
theorem dX4_goAsItGoes_19 : decode cX4_goAsItGoes 19 = .ok (.pop, 1) := by decide +kernel
theorem dX4_goAsItGoes_20 : decode cX4_goAsItGoes 20 = .ok (.return_, 1) := by decide +kernel
theorem dX4_goWith_0 : decode cX4_goWith 0 = .ok (.aload_n 0, 1) := by decide +kernel
theorem dX4_goWith_1 : decode cX4_goWith 1 = .ok (.invokevirtual 120, 3) := by decide +kernel
theorem dX4_goWith_4 : decode cX4_goWith 4 = .ok (.aload_n 0, 1) := by decide +kernel
theorem dX4_goWith_5 : decode cX4_goWith 5 = .ok (.getfield 16, 3) := by decide +kernel
theorem dX4_goWith_8 : decode cX4_goWith 8 = .ok (.iload_n 2, 1) := by decide +kernel
theorem dX4_goWith_9 : decode cX4_goWith 9 = .ok (.invokevirtual 71, 3) := by decide +kernel
theorem dX4_goWith_12 : decode cX4_goWith 12 = .ok (.astore 5, 2) := by decide +kernel
theorem dX4_goWith_14 : decode cX4_goWith 14 = .ok (.aload 5, 2) := by decide +kernel
theorem dX4_goWith_16 : decode cX4_goWith 16 = .ok (.ifnull 19, 3) := by decide +kernel
theorem dX4_goWith_19 : decode cX4_goWith 19 = .ok (.aload_n 0, 1) := by decide +kernel
theorem dX4_goWith_20 : decode cX4_goWith 20 = .ok (.getfield 16, 3) := by decide +kernel
theorem dX4_goWith_23 : decode cX4_goWith 23 = .ok (.iload_n 1, 1) := by decide +kernel
theorem dX4_goWith_24 : decode cX4_goWith 24 = .ok (.invokevirtual 65, 3) := by decide +kernel
theorem dX4_goWith_27 : decode cX4_goWith 27 = .ok (.ifCond .eq 8, 3) := by decide +kernel
theorem dX4_goWith_30 : decode cX4_goWith 30 = .ok (.aload 5, 2) := by decide +kernel
theorem dX4_goWith_32 : decode cX4_goWith 32 = .ok (.iload_n 1, 1) := by decide +kernel
theorem dX4_goWith_33 : decode cX4_goWith 33 = .ok (.iload_n 3, 1) := by decide +kernel
theorem dX4_goWith_34 : decode cX4_goWith 34 = .ok (.iastore, 1) := by decide +kernel
theorem dX4_goWith_35 : decode cX4_goWith 35 = .ok (.aload_n 0, 1) := by decide +kernel
theorem dX4_goWith_36 : decode cX4_goWith 36 = .ok (.getfield 16, 3) := by decide +kernel
theorem dX4_goWith_39 : decode cX4_goWith 39 = .ok (.iload 4, 2) := by decide +kernel
theorem dX4_goWith_41 : decode cX4_goWith 41 = .ok (.invokevirtual 96, 3) := by decide +kernel
theorem dX4_goWith_44 : decode cX4_goWith 44 = .ok (.pop, 1) := by decide +kernel
theorem dX4_goWith_45 : decode cX4_goWith 45 = .ok (.return_, 1) := by decide +kernel
theorem dX4_goWithMove_0 : decode cX4_goWithMove 0 = .ok (.aload_n 0, 1) := by decide +kernel
theorem dX4_goWithMove_1 : decode cX4_goWithMove 1 = .ok (.invokevirtual 120, 3) := by decide +kernel
theorem dX4_goWithMove_4 : decode cX4_goWithMove 4 = .ok (.aload_n 0, 1) := by decide +kernel
theorem dX4_goWithMove_5 : decode cX4_goWithMove 5 = .ok (.getfield 16, 3) := by decide +kernel
theorem dX4_goWithMove_8 : decode cX4_goWithMove 8 = .ok (.iload_n 1, 1) := by decide +kernel
theorem dX4_goWithMove_9 : decode cX4_goWithMove 9 = .ok (.iload_n 2, 1) := by decide +kernel
theorem dX4_goWithMove_10 : decode cX4_goWithMove 10 = .ok (.invokevirtual 88, 3) := by decide +kernel
theorem dX4_goWithMove_13 : decode cX4_goWithMove 13 = .ok (.aload_n 0, 1) := by decide +kernel
theorem dX4_goWithMove_14 : decode cX4_goWithMove 14 = .ok (.getfield 16, 3) := by decide +kernel
theorem dX4_goWithMove_17 : decode cX4_goWithMove 17 = .ok (.iload_n 3, 1) := by decide +kernel
theorem dX4_goWithMove_18 : decode cX4_goWithMove 18 = .ok (.invokevirtual 96, 3) := by decide +kernel
theorem dX4_goWithMove_21 : decode cX4_goWithMove 21 = .ok (.pop, 1) := by decide +kernel
theorem dX4_goWithMove_22 : decode cX4_goWithMove 22 = .ok (.return_, 1) := by decide +kernel
theorem dJ9_max_7cf53_0 : decode cJ9_max_7cf53 0 = .ok (.iload_n 0, 1) := by decide +kernel
theorem dJ9_max_7cf53_1 : decode cJ9_max_7cf53 1 = .ok (.iload_n 1, 1) := by decide +kernel
theorem dJ9_max_7cf53_2 : decode cJ9_max_7cf53 2 = .ok (.if_icmp .lt 7, 3) := by decide +kernel
theorem dJ9_max_7cf53_5 : decode cJ9_max_7cf53 5 = .ok (.iload_n 0, 1) := by decide +kernel
theorem dJ9_max_7cf53_6 : decode cJ9_max_7cf53 6 = .ok (.goto 4, 3) := by decide +kernel
theorem dJ9_max_7cf53_9 : decode cJ9_max_7cf53 9 = .ok (.iload_n 1, 1) := by decide +kernel
theorem dJ9_max_7cf53_10 : decode cJ9_max_7cf53 10 = .ok (.ireturn, 1) := by decide +kernel
theorem dJ9_min_7cf53_0 : decode cJ9_min_7cf53 0 = .ok (.iload_n 0, 1) := by decide +kernel
theorem dJ9_min_7cf53_1 : decode cJ9_min_7cf53 1 = .ok (.iload_n 1, 1) := by decide +kernel
theorem dJ9_min_7cf53_2 : decode cJ9_min_7cf53 2 = .ok (.if_icmp .gt 7, 3) := by decide +kernel
theorem dJ9_min_7cf53_5 : decode cJ9_min_7cf53 5 = .ok (.iload_n 0, 1) := by decide +kernel
theorem dJ9_min_7cf53_6 : decode cJ9_min_7cf53 6 = .ok (.goto 4, 3) := by decide +kernel
theorem dJ9_min_7cf53_9 : decode cJ9_min_7cf53 9 = .ok (.iload_n 1, 1) := by decide +kernel
theorem dJ9_min_7cf53_10 : decode cJ9_min_7cf53 10 = .ok (.ireturn, 1) := by decide +kernel
theorem dJ0_length_8abf5_0 : decode cJ0_length_8abf5 0 = .ok (.aload_n 0, 1) := by decide +kernel
theorem dJ0_length_8abf5_1 : decode cJ0_length_8abf5 1 = .ok (.getfield 9, 3) := by decide +kernel
theorem dJ0_length_8abf5_4 : decode cJ0_length_8abf5 4 = .ok (.arraylength, 1) := by decide +kernel
theorem dJ0_length_8abf5_5 : decode cJ0_length_8abf5 5 = .ok (.aload_n 0, 1) := by decide +kernel
theorem dJ0_length_8abf5_6 : decode cJ0_length_8abf5 6 = .ok (.invokevirtual 335, 3) := by decide +kernel
theorem dJ0_length_8abf5_9 : decode cJ0_length_8abf5 9 = .ok (.ishr, 1) := by decide +kernel
theorem dJ0_length_8abf5_10 : decode cJ0_length_8abf5 10 = .ok (.ireturn, 1) := by decide +kernel
theorem dJ0_charAt_5068e_0 : decode cJ0_charAt_5068e 0 = .ok (.aload_n 0, 1) := by decide +kernel
theorem dJ0_charAt_5068e_1 : decode cJ0_charAt_5068e 1 = .ok (.invokevirtual 492, 3) := by decide +kernel
theorem dJ0_charAt_5068e_4 : decode cJ0_charAt_5068e 4 = .ok (.ifCond .eq 12, 3) := by decide +kernel
theorem dJ0_charAt_5068e_7 : decode cJ0_charAt_5068e 7 = .ok (.aload_n 0, 1) := by decide +kernel
theorem dJ0_charAt_5068e_8 : decode cJ0_charAt_5068e 8 = .ok (.getfield 9, 3) := by decide +kernel
theorem dJ0_charAt_5068e_11 : decode cJ0_charAt_5068e 11 = .ok (.iload_n 1, 1) := by decide +kernel
theorem dJ0_charAt_5068e_12 : decode cJ0_charAt_5068e 12 = .ok (.invokestatic 495, 3) := by decide +kernel
theorem dJ0_charAt_5068e_15 : decode cJ0_charAt_5068e 15 = .ok (.ireturn, 1) := by decide +kernel
theorem dJ0_charAt_5068e_16 : decode cJ0_charAt_5068e 16 = .ok (.aload_n 0, 1) := by decide +kernel
theorem dJ0_charAt_5068e_17 : decode cJ0_charAt_5068e 17 = .ok (.getfield 9, 3) := by decide +kernel
theorem dJ0_charAt_5068e_20 : decode cJ0_charAt_5068e 20 = .ok (.iload_n 1, 1) := by decide +kernel
theorem dJ0_charAt_5068e_21 : decode cJ0_charAt_5068e 21 = .ok (.invokestatic 498, 3) := by decide +kernel
theorem dJ0_charAt_5068e_24 : decode cJ0_charAt_5068e 24 = .ok (.ireturn, 1) := by decide +kernel
theorem dJ0_coder_7d493_0 : decode cJ0_coder_7d493 0 = .ok (.getstatic 38, 3) := by decide +kernel
theorem dJ0_coder_7d493_3 : decode cJ0_coder_7d493 3 = .ok (.ifCond .eq 10, 3) := by decide +kernel
theorem dJ0_coder_7d493_6 : decode cJ0_coder_7d493 6 = .ok (.aload_n 0, 1) := by decide +kernel
theorem dJ0_coder_7d493_7 : decode cJ0_coder_7d493 7 = .ok (.getfield 15, 3) := by decide +kernel
theorem dJ0_coder_7d493_10 : decode cJ0_coder_7d493 10 = .ok (.goto 4, 3) := by decide +kernel
theorem dJ0_coder_7d493_13 : decode cJ0_coder_7d493 13 = .ok (.iconst 1, 1) := by decide +kernel
theorem dJ0_coder_7d493_14 : decode cJ0_coder_7d493 14 = .ok (.ireturn, 1) := by decide +kernel
theorem dJ0_isLatin1_aae02_0 : decode cJ0_isLatin1_aae02 0 = .ok (.getstatic 38, 3) := by decide +kernel
theorem dJ0_isLatin1_aae02_3 : decode cJ0_isLatin1_aae02 3 = .ok (.ifCond .eq 14, 3) := by decide +kernel
theorem dJ0_isLatin1_aae02_6 : decode cJ0_isLatin1_aae02 6 = .ok (.aload_n 0, 1) := by decide +kernel
theorem dJ0_isLatin1_aae02_7 : decode cJ0_isLatin1_aae02 7 = .ok (.getfield 15, 3) := by decide +kernel
theorem dJ0_isLatin1_aae02_10 : decode cJ0_isLatin1_aae02 10 = .ok (.ifCond .ne 7, 3) := by decide +kernel
theorem dJ0_isLatin1_aae02_13 : decode cJ0_isLatin1_aae02 13 = .ok (.iconst 1, 1) := by decide +kernel
theorem dJ0_isLatin1_aae02_14 : decode cJ0_isLatin1_aae02 14 = .ok (.goto 4, 3) := by decide +kernel
theorem dJ0_isLatin1_aae02_17 : decode cJ0_isLatin1_aae02 17 = .ok (.iconst 0, 1) := by decide +kernel
theorem dJ0_isLatin1_aae02_18 : decode cJ0_isLatin1_aae02 18 = .ok (.ireturn, 1) := by decide +kernel
theorem dJ0_checkIndex_df160_0 : decode cJ0_checkIndex_df160 0 = .ok (.iload_n 0, 1) := by decide +kernel
theorem dJ0_checkIndex_df160_1 : decode cJ0_checkIndex_df160 1 = .ok (.iload_n 1, 1) := by decide +kernel
theorem dJ0_checkIndex_df160_2 : decode cJ0_checkIndex_df160 2 = .ok (.getstatic 1053, 3) := by decide +kernel
theorem dJ0_checkIndex_df160_5 : decode cJ0_checkIndex_df160 5 = .ok (.invokestatic 1059, 3) := by decide +kernel
theorem dJ0_checkIndex_df160_8 : decode cJ0_checkIndex_df160 8 = .ok (.pop, 1) := by decide +kernel
theorem dJ0_checkIndex_df160_9 : decode cJ0_checkIndex_df160 9 = .ok (.return_, 1) := by decide +kernel
theorem dJ1_charAt_3b067_0 : decode cJ1_charAt_3b067 0 = .ok (.iload_n 1, 1) := by decide +kernel
theorem dJ1_charAt_3b067_1 : decode cJ1_charAt_3b067 1 = .ok (.aload_n 0, 1) := by decide +kernel
theorem dJ1_charAt_3b067_2 : decode cJ1_charAt_3b067 2 = .ok (.arraylength, 1) := by decide +kernel
theorem dJ1_charAt_3b067_3 : decode cJ1_charAt_3b067 3 = .ok (.invokestatic 9, 3) := by decide +kernel
theorem dJ1_charAt_3b067_6 : decode cJ1_charAt_3b067 6 = .ok (.aload_n 0, 1) := by decide +kernel
theorem dJ1_charAt_3b067_7 : decode cJ1_charAt_3b067 7 = .ok (.iload_n 1, 1) := by decide +kernel
theorem dJ1_charAt_3b067_8 : decode cJ1_charAt_3b067 8 = .ok (.baload, 1) := by decide +kernel
theorem dJ1_charAt_3b067_9 : decode cJ1_charAt_3b067 9 = .ok (.sipush 255, 3) := by decide +kernel
theorem dJ1_charAt_3b067_12 : decode cJ1_charAt_3b067 12 = .ok (.iand, 1) := by decide +kernel
theorem dJ1_charAt_3b067_13 : decode cJ1_charAt_3b067 13 = .ok (.i2c, 1) := by decide +kernel
theorem dJ1_charAt_3b067_14 : decode cJ1_charAt_3b067 14 = .ok (.ireturn, 1) := by decide +kernel
theorem dJ2_getChar_3b067_0 : decode cJ2_getChar_3b067 0 = .ok (.getstatic 44, 3) := by decide +kernel
theorem dJ2_getChar_3b067_3 : decode cJ2_getChar_3b067 3 = .ok (.ifCond .ne 25, 3) := by decide +kernel
theorem dJ2_getChar_3b067_6 : decode cJ2_getChar_3b067 6 = .ok (.iload_n 1, 1) := by decide +kernel
theorem dJ2_getChar_3b067_7 : decode cJ2_getChar_3b067 7 = .ok (.ifCond .lt 11, 3) := by decide +kernel
theorem dJ2_getChar_3b067_10 : decode cJ2_getChar_3b067 10 = .ok (.iload_n 1, 1) := by decide +kernel
theorem dJ2_getChar_3b067_11 : decode cJ2_getChar_3b067 11 = .ok (.aload_n 0, 1) := by decide +kernel
theorem dJ2_getChar_3b067_12 : decode cJ2_getChar_3b067 12 = .ok (.invokestatic 48, 3) := by decide +kernel
theorem dJ2_getChar_3b067_15 : decode cJ2_getChar_3b067 15 = .ok (.if_icmp .lt 13, 3) := by decide +kernel
theorem dJ2_getChar_3b067_18 : decode cJ2_getChar_3b067 18 = .ok (.new 52, 3) := by decide +kernel
theorem dJ2_getChar_3b067_21 : decode cJ2_getChar_3b067 21 = .ok (.dup, 1) := by decide +kernel
theorem dJ2_getChar_3b067_22 : decode cJ2_getChar_3b067 22 = .ok (.ldc 54, 2) := by decide +kernel
theorem dJ2_getChar_3b067_24 : decode cJ2_getChar_3b067 24 = .ok (.invokespecial 56, 3) := by decide +kernel
theorem dJ2_getChar_3b067_27 : decode cJ2_getChar_3b067 27 = .ok (.athrow, 1) := by decide +kernel
theorem dJ2_getChar_3b067_28 : decode cJ2_getChar_3b067 28 = .ok (.iload_n 1, 1) := by decide +kernel
theorem dJ2_getChar_3b067_29 : decode cJ2_getChar_3b067 29 = .ok (.iconst 1, 1) := by decide +kernel
theorem dJ2_getChar_3b067_30 : decode cJ2_getChar_3b067 30 = .ok (.ishl, 1) := by decide +kernel
theorem dJ2_getChar_3b067_31 : decode cJ2_getChar_3b067 31 = .ok (.istore_n 1, 1) := by decide +kernel
theorem dJ2_getChar_3b067_32 : decode cJ2_getChar_3b067 32 = .ok (.aload_n 0, 1) := by decide +kernel
theorem dJ2_getChar_3b067_33 : decode cJ2_getChar_3b067 33 = .ok (.iload_n 1, 1) := by decide +kernel
theorem dJ2_getChar_3b067_34 : decode cJ2_getChar_3b067 34 = .ok (.iinc 1 1, 3) := by decide +kernel
theorem dJ2_getChar_3b067_37 : decode cJ2_getChar_3b067 37 = .ok (.baload, 1) := by decide +kernel
theorem dJ2_getChar_3b067_38 : decode cJ2_getChar_3b067 38 = .ok (.sipush 255, 3) := by decide +kernel
theorem dJ2_getChar_3b067_41 : decode cJ2_getChar_3b067 41 = .ok (.iand, 1) := by decide +kernel
theorem dJ2_getChar_3b067_42 : decode cJ2_getChar_3b067 42 = .ok (.getstatic 59, 3) := by decide +kernel
theorem dJ2_getChar_3b067_45 : decode cJ2_getChar_3b067 45 = .ok (.ishl, 1) := by decide +kernel
theorem dJ2_getChar_3b067_46 : decode cJ2_getChar_3b067 46 = .ok (.aload_n 0, 1) := by decide +kernel
theorem dJ2_getChar_3b067_47 : decode cJ2_getChar_3b067 47 = .ok (.iload_n 1, 1) := by decide +kernel
theorem dJ2_getChar_3b067_48 : decode cJ2_getChar_3b067 48 = .ok (.baload, 1) := by decide +kernel
theorem dJ2_getChar_3b067_49 : decode cJ2_getChar_3b067 49 = .ok (.sipush 255, 3) := by decide +kernel
theorem dJ2_getChar_3b067_52 : decode cJ2_getChar_3b067 52 = .ok (.iand, 1) := by decide +kernel
theorem dJ2_getChar_3b067_53 : decode cJ2_getChar_3b067 53 = .ok (.getstatic 63, 3) := by decide +kernel
theorem dJ2_getChar_3b067_56 : decode cJ2_getChar_3b067 56 = .ok (.ishl, 1) := by decide +kernel
theorem dJ2_getChar_3b067_57 : decode cJ2_getChar_3b067 57 = .ok (.ior, 1) := by decide +kernel
theorem dJ2_getChar_3b067_58 : decode cJ2_getChar_3b067 58 = .ok (.i2c, 1) := by decide +kernel
theorem dJ2_getChar_3b067_59 : decode cJ2_getChar_3b067 59 = .ok (.ireturn, 1) := by decide +kernel
theorem dJ2_length_9d52b_0 : decode cJ2_length_9d52b 0 = .ok (.aload_n 0, 1) := by decide +kernel
theorem dJ2_length_9d52b_1 : decode cJ2_length_9d52b 1 = .ok (.arraylength, 1) := by decide +kernel
theorem dJ2_length_9d52b_2 : decode cJ2_length_9d52b 2 = .ok (.iconst 1, 1) := by decide +kernel
theorem dJ2_length_9d52b_3 : decode cJ2_length_9d52b 3 = .ok (.ishr, 1) := by decide +kernel
theorem dJ2_length_9d52b_4 : decode cJ2_length_9d52b 4 = .ok (.ireturn, 1) := by decide +kernel
theorem dJ2_charAt_3b067_0 : decode cJ2_charAt_3b067 0 = .ok (.iload_n 1, 1) := by decide +kernel
theorem dJ2_charAt_3b067_1 : decode cJ2_charAt_3b067 1 = .ok (.aload_n 0, 1) := by decide +kernel
theorem dJ2_charAt_3b067_2 : decode cJ2_charAt_3b067 2 = .ok (.invokestatic 67, 3) := by decide +kernel
theorem dJ2_charAt_3b067_5 : decode cJ2_charAt_3b067 5 = .ok (.aload_n 0, 1) := by decide +kernel
theorem dJ2_charAt_3b067_6 : decode cJ2_charAt_3b067 6 = .ok (.iload_n 1, 1) := by decide +kernel
theorem dJ2_charAt_3b067_7 : decode cJ2_charAt_3b067 7 = .ok (.invokestatic 71, 3) := by decide +kernel
theorem dJ2_charAt_3b067_10 : decode cJ2_charAt_3b067 10 = .ok (.ireturn, 1) := by decide +kernel
theorem dJ2_checkIndex_2214a_0 : decode cJ2_checkIndex_2214a 0 = .ok (.iload_n 0, 1) := by decide +kernel
theorem dJ2_checkIndex_2214a_1 : decode cJ2_checkIndex_2214a 1 = .ok (.aload_n 1, 1) := by decide +kernel
theorem dJ2_checkIndex_2214a_2 : decode cJ2_checkIndex_2214a 2 = .ok (.invokestatic 48, 3) := by decide +kernel
theorem dJ2_checkIndex_2214a_5 : decode cJ2_checkIndex_2214a 5 = .ok (.invokestatic 414, 3) := by decide +kernel
theorem dJ2_checkIndex_2214a_8 : decode cJ2_checkIndex_2214a 8 = .ok (.return_, 1) := by decide +kernel
theorem dJ7_fill_53178_0 : decode cJ7_fill_53178 0 = .ok (.iconst 0, 1) := by decide +kernel
theorem dJ7_fill_53178_1 : decode cJ7_fill_53178 1 = .ok (.istore_n 2, 1) := by decide +kernel
theorem dJ7_fill_53178_2 : decode cJ7_fill_53178 2 = .ok (.aload_n 0, 1) := by decide +kernel
theorem dJ7_fill_53178_3 : decode cJ7_fill_53178 3 = .ok (.arraylength, 1) := by decide +kernel
theorem dJ7_fill_53178_4 : decode cJ7_fill_53178 4 = .ok (.istore_n 3, 1) := by decide +kernel
theorem dJ7_fill_53178_5 : decode cJ7_fill_53178 5 = .ok (.iload_n 2, 1) := by decide +kernel
theorem dJ7_fill_53178_6 : decode cJ7_fill_53178 6 = .ok (.iload_n 3, 1) := by decide +kernel
theorem dJ7_fill_53178_7 : decode cJ7_fill_53178 7 = .ok (.if_icmp .ge 13, 3) := by decide +kernel
theorem dJ7_fill_53178_10 : decode cJ7_fill_53178 10 = .ok (.aload_n 0, 1) := by decide +kernel
theorem dJ7_fill_53178_11 : decode cJ7_fill_53178 11 = .ok (.iload_n 2, 1) := by decide +kernel
theorem dJ7_fill_53178_12 : decode cJ7_fill_53178 12 = .ok (.iload_n 1, 1) := by decide +kernel
theorem dJ7_fill_53178_13 : decode cJ7_fill_53178 13 = .ok (.iastore, 1) := by decide +kernel
theorem dJ7_fill_53178_14 : decode cJ7_fill_53178 14 = .ok (.iinc 2 1, 3) := by decide +kernel
theorem dJ7_fill_53178_17 : decode cJ7_fill_53178 17 = .ok (.goto (-12), 3) := by decide +kernel
theorem dJ7_fill_53178_20 : decode cJ7_fill_53178 20 = .ok (.return_, 1) := by decide +kernel
theorem dJ3_checkIndex_8e157_0 : decode cJ3_checkIndex_8e157 0 = .ok (.iload_n 0, 1) := by decide +kernel
theorem dJ3_checkIndex_8e157_1 : decode cJ3_checkIndex_8e157 1 = .ok (.ifCond .lt 8, 3) := by decide +kernel
theorem dJ3_checkIndex_8e157_4 : decode cJ3_checkIndex_8e157 4 = .ok (.iload_n 0, 1) := by decide +kernel
theorem dJ3_checkIndex_8e157_5 : decode cJ3_checkIndex_8e157 5 = .ok (.iload_n 1, 1) := by decide +kernel
theorem dJ3_checkIndex_8e157_6 : decode cJ3_checkIndex_8e157 6 = .ok (.if_icmp .lt 10, 3) := by decide +kernel
theorem dJ3_checkIndex_8e157_9 : decode cJ3_checkIndex_8e157 9 = .ok (.aload_n 2, 1) := by decide +kernel
theorem dJ3_checkIndex_8e157_10 : decode cJ3_checkIndex_8e157 10 = .ok (.iload_n 0, 1) := by decide +kernel
theorem dJ3_checkIndex_8e157_11 : decode cJ3_checkIndex_8e157 11 = .ok (.iload_n 1, 1) := by decide +kernel
theorem dJ3_checkIndex_8e157_12 : decode cJ3_checkIndex_8e157 12 = .ok (.invokestatic 95, 3) := by decide +kernel
theorem dJ3_checkIndex_8e157_15 : decode cJ3_checkIndex_8e157 15 = .ok (.athrow, 1) := by decide +kernel
theorem dJ3_checkIndex_8e157_16 : decode cJ3_checkIndex_8e157 16 = .ok (.iload_n 0, 1) := by decide +kernel
theorem dJ3_checkIndex_8e157_17 : decode cJ3_checkIndex_8e157 17 = .ok (.ireturn, 1) := by decide +kernel
