theorem dX0_init_0 : decode cX0_init 0 = .ok (.aload_n 0, 1) := by decide +kernel
theorem dX0_init_1 : decode cX0_init 1 = .ok (.invokespecial 3, 3) := by decide +kernel
theorem dX0_init_4 : decode cX0_init 4 = .ok (.aload_n 0, 1) := by decide +kernel
theorem dX0_init_5 : decode cX0_init 5 = .ok (.bipush 30, 2) := by decide +kernel
theorem dX0_init_7 : decode cX0_init 7 = .ok (.newarray .int, 2) := by decide +kernel
theorem dX0_init_9 : decode cX0_init 9 = .ok (.putfield 9, 3) := by decide +kernel
theorem dX0_init_12 : decode cX0_init 12 = .ok (.aload_n 0, 1) := by decide +kernel
theorem dX0_init_13 : decode cX0_init 13 = .ok (.iconst 3, 1) := by decide +kernel
theorem dX0_init_14 : decode cX0_init 14 = .ok (.newarray .int, 2) := by decide +kernel
theorem dX0_init_16 : decode cX0_init 16 = .ok (.putfield 15, 3) := by decide +kernel
theorem dX0_init_19 : decode cX0_init 19 = .ok (.aload_n 0, 1) := by decide +kernel
theorem dX0_init_20 : decode cX0_init 20 = .ok (.iconst 3, 1) := by decide +kernel
theorem dX0_init_21 : decode cX0_init 21 = .ok (.newarray .int, 2) := by decide +kernel
theorem dX0_init_23 : decode cX0_init 23 = .ok (.putfield 18, 3) := by decide +kernel
theorem dX0_init_26 : decode cX0_init 26 = .ok (.aload_n 0, 1) := by decide +kernel
theorem dX0_init_27 : decode cX0_init 27 = .ok (.bipush 90, 2) := by decide +kernel
theorem dX0_init_29 : decode cX0_init 29 = .ok (.newarray .int, 2) := by decide +kernel
theorem dX0_init_31 : decode cX0_init 31 = .ok (.putfield 21, 3) := by decide +kernel
theorem dX0_init_34 : decode cX0_init 34 = .ok (.aload_n 0, 1) := by decide +kernel
theorem dX0_init_35 : decode cX0_init 35 = .ok (.iconst 0, 1) := by decide +kernel
theorem dX0_init_36 : decode cX0_init 36 = .ok (.putfield 24, 3) := by decide +kernel
theorem dX0_init_39 : decode cX0_init 39 = .ok (.aload_n 0, 1) := by decide +kernel
theorem dX0_init_40 : decode cX0_init 40 = .ok (.iconst 0, 1) := by decide +kernel
theorem dX0_init_41 : decode cX0_init 41 = .ok (.putfield 28, 3) := by decide +kernel
theorem dX0_init_44 : decode cX0_init 44 = .ok (.return_, 1) := by decide +kernel
theorem dX0_search_0 : decode cX0_search 0 = .ok (.aload_n 0, 1) := by decide +kernel
theorem dX0_search_1 : decode cX0_search 1 = .ok (.iload_n 3, 1) := by decide +kernel
theorem dX0_search_2 : decode cX0_search 2 = .ok (.putfield 24, 3) := by decide +kernel
theorem dX0_search_5 : decode cX0_search 5 = .ok (.aload_n 0, 1) := by decide +kernel
theorem dX0_search_6 : decode cX0_search 6 = .ok (.ldc 31, 2) := by decide +kernel
theorem dX0_search_8 : decode cX0_search 8 = .ok (.putfield 28, 3) := by decide +kernel
theorem dX0_search_11 : decode cX0_search 11 = .ok (.iconst 0, 1) := by decide +kernel
theorem dX0_search_12 : decode cX0_search 12 = .ok (.istore 4, 2) := by decide +kernel
theorem dX0_search_14 : decode cX0_search 14 = .ok (.iload 4, 2) := by decide +kernel
theorem dX0_search_16 : decode cX0_search 16 = .ok (.aload_n 1, 1) := by decide +kernel
theorem dX0_search_17 : decode cX0_search 17 = .ok (.getfield 32, 3) := by decide +kernel
theorem dX0_search_20 : decode cX0_search 20 = .ok (.if_icmp .ge 18, 3) := by decide +kernel
theorem dX0_search_23 : decode cX0_search 23 = .ok (.aload_n 0, 1) := by decide +kernel
theorem dX0_search_24 : decode cX0_search 24 = .ok (.getfield 21, 3) := by decide +kernel
theorem dX0_search_27 : decode cX0_search 27 = .ok (.iload 4, 2) := by decide +kernel
theorem dX0_search_29 : decode cX0_search 29 = .ok (.ldc 31, 2) := by decide +kernel
theorem dX0_search_31 : decode cX0_search 31 = .ok (.iastore, 1) := by decide +kernel
theorem dX0_search_32 : decode cX0_search 32 = .ok (.iinc 4 1, 3) := by decide +kernel
theorem dX0_search_35 : decode cX0_search 35 = .ok (.goto (-21), 3) := by decide +kernel
theorem dX0_search_38 : decode cX0_search 38 = .ok (.aload_n 0, 1) := by decide +kernel
theorem dX0_search_39 : decode cX0_search 39 = .ok (.aload_n 1, 1) := by decide +kernel
theorem dX0_search_40 : decode cX0_search 40 = .ok (.iload_n 2, 1) := by decide +kernel
theorem dX0_search_41 : decode cX0_search 41 = .ok (.iconst 0, 1) := by decide +kernel
theorem dX0_search_42 : decode cX0_search 42 = .ok (.iconst 0, 1) := by decide +kernel
theorem dX0_search_43 : decode cX0_search 43 = .ok (.invokevirtual 37, 3) := by decide +kernel
theorem dX0_search_46 : decode cX0_search 46 = .ok (.iconst 0, 1) := by decide +kernel
theorem dX0_search_47 : decode cX0_search 47 = .ok (.istore 4, 2) := by decide +kernel
theorem dX0_search_49 : decode cX0_search 49 = .ok (.iload 4, 2) := by decide +kernel
theorem dX0_search_51 : decode cX0_search 51 = .ok (.aload_n 1, 1) := by decide +kernel
theorem dX0_search_52 : decode cX0_search 52 = .ok (.getfield 32, 3) := by decide +kernel
theorem dX0_search_55 : decode cX0_search 55 = .ok (.if_icmp .ge 24, 3) := by decide +kernel
theorem dX0_search_58 : decode cX0_search 58 = .ok (.aload_n 0, 1) := by decide +kernel
theorem dX0_search_59 : decode cX0_search 59 = .ok (.getfield 9, 3) := by decide +kernel
theorem dX0_search_62 : decode cX0_search 62 = .ok (.iload 4, 2) := by decide +kernel
theorem dX0_search_64 : decode cX0_search 64 = .ok (.aload_n 0, 1) := by decide +kernel
theorem dX0_search_65 : decode cX0_search 65 = .ok (.aload_n 1, 1) := by decide +kernel
theorem dX0_search_66 : decode cX0_search 66 = .ok (.iload_n 2, 1) := by decide +kernel
theorem dX0_search_67 : decode cX0_search 67 = .ok (.iload 4, 2) := by decide +kernel
theorem dX0_search_69 : decode cX0_search 69 = .ok (.invokevirtual 41, 3) := by decide +kernel
theorem dX0_search_72 : decode cX0_search 72 = .ok (.iastore, 1) := by decide +kernel
theorem dX0_search_73 : decode cX0_search 73 = .ok (.iinc 4 1, 3) := by decide +kernel
theorem dX0_search_76 : decode cX0_search 76 = .ok (.goto (-27), 3) := by decide +kernel
theorem dX0_search_79 : decode cX0_search 79 = .ok (.aload_n 0, 1) := by decide +kernel
theorem dX0_search_80 : decode cX0_search 80 = .ok (.getfield 28, 3) := by decide +kernel
theorem dX0_search_83 : decode cX0_search 83 = .ok (.ireturn, 1) := by decide +kernel
theorem dX0_tryRows_0 : decode cX0_tryRows 0 = .ok (.iload_n 3, 1) := by decide +kernel
theorem dX0_tryRows_1 : decode cX0_tryRows 1 = .ok (.aload_n 0, 1) := by decide +kernel
theorem dX0_tryRows_2 : decode cX0_tryRows 2 = .ok (.getfield 24, 3) := by decide +kernel
theorem dX0_tryRows_5 : decode cX0_tryRows 5 = .ok (.if_icmp .lt 4, 3) := by decide +kernel
theorem dX0_tryRows_8 : decode cX0_tryRows 8 = .ok (.return_, 1) := by decide +kernel
theorem dX0_tryRows_9 : decode cX0_tryRows 9 = .ok (.iload 4, 2) := by decide +kernel
theorem dX0_tryRows_11 : decode cX0_tryRows 11 = .ok (.istore 5, 2) := by decide +kernel
theorem dX0_tryRows_13 : decode cX0_tryRows 13 = .ok (.iload 5, 2) := by decide +kernel
theorem dX0_tryRows_15 : decode cX0_tryRows 15 = .ok (.aload_n 1, 1) := by decide +kernel
theorem dX0_tryRows_16 : decode cX0_tryRows 16 = .ok (.getfield 32, 3) := by decide +kernel
theorem dX0_tryRows_19 : decode cX0_tryRows 19 = .ok (.if_icmp .ge 61, 3) := by decide +kernel
theorem dX0_tryRows_22 : decode cX0_tryRows 22 = .ok (.aload_n 0, 1) := by decide +kernel
theorem dX0_tryRows_23 : decode cX0_tryRows 23 = .ok (.getfield 18, 3) := by decide +kernel
theorem dX0_tryRows_26 : decode cX0_tryRows 26 = .ok (.iload_n 3, 1) := by decide +kernel
theorem dX0_tryRows_27 : decode cX0_tryRows 27 = .ok (.iload 5, 2) := by decide +kernel
theorem dX0_tryRows_29 : decode cX0_tryRows 29 = .ok (.iastore, 1) := by decide +kernel
theorem dX0_tryRows_30 : decode cX0_tryRows 30 = .ok (.iload_n 3, 1) := by decide +kernel
theorem dX0_tryRows_31 : decode cX0_tryRows 31 = .ok (.iconst 1, 1) := by decide +kernel
theorem dX0_tryRows_32 : decode cX0_tryRows 32 = .ok (.iadd, 1) := by decide +kernel
theorem dX0_tryRows_33 : decode cX0_tryRows 33 = .ok (.aload_n 0, 1) := by decide +kernel
theorem dX0_tryRows_34 : decode cX0_tryRows 34 = .ok (.getfield 24, 3) := by decide +kernel
theorem dX0_tryRows_37 : decode cX0_tryRows 37 = .ok (.if_icmp .ge 28, 3) := by decide +kernel
theorem dX0_tryRows_40 : decode cX0_tryRows 40 = .ok (.aload_n 0, 1) := by decide +kernel
theorem dX0_tryRows_41 : decode cX0_tryRows 41 = .ok (.aload_n 1, 1) := by decide +kernel
theorem dX0_tryRows_42 : decode cX0_tryRows 42 = .ok (.iload_n 2, 1) := by decide +kernel
theorem dX0_tryRows_43 : decode cX0_tryRows 43 = .ok (.iload_n 3, 1) := by decide +kernel
theorem dX0_tryRows_44 : decode cX0_tryRows 44 = .ok (.iload 5, 2) := by decide +kernel
theorem dX0_tryRows_46 : decode cX0_tryRows 46 = .ok (.invokevirtual 45, 3) := by decide +kernel
theorem dX0_tryRows_49 : decode cX0_tryRows 49 = .ok (.aload_n 0, 1) := by decide +kernel
theorem dX0_tryRows_50 : decode cX0_tryRows 50 = .ok (.aload_n 1, 1) := by decide +kernel
theorem dX0_tryRows_51 : decode cX0_tryRows 51 = .ok (.iload_n 2, 1) := by decide +kernel
theorem dX0_tryRows_52 : decode cX0_tryRows 52 = .ok (.iload_n 3, 1) := by decide +kernel
theorem dX0_tryRows_53 : decode cX0_tryRows 53 = .ok (.iconst 1, 1) := by decide +kernel
theorem dX0_tryRows_54 : decode cX0_tryRows 54 = .ok (.iadd, 1) := by decide +kernel
theorem dX0_tryRows_55 : decode cX0_tryRows 55 = .ok (.iload 5, 2) := by decide +kernel
theorem dX0_tryRows_57 : decode cX0_tryRows 57 = .ok (.iconst 1, 1) := by decide +kernel
theorem dX0_tryRows_58 : decode cX0_tryRows 58 = .ok (.iadd, 1) := by decide +kernel
theorem dX0_tryRows_59 : decode cX0_tryRows 59 = .ok (.invokevirtual 37, 3) := by decide +kernel
theorem dX0_tryRows_62 : decode cX0_tryRows 62 = .ok (.goto 12, 3) := by decide +kernel
theorem dX0_tryRows_65 : decode cX0_tryRows 65 = .ok (.aload_n 0, 1) := by decide +kernel
theorem dX0_tryRows_66 : decode cX0_tryRows 66 = .ok (.aload_n 1, 1) := by decide +kernel
theorem dX0_tryRows_67 : decode cX0_tryRows 67 = .ok (.iload_n 2, 1) := by decide +kernel
theorem dX0_tryRows_68 : decode cX0_tryRows 68 = .ok (.iload_n 3, 1) := by decide +kernel
theorem dX0_tryRows_69 : decode cX0_tryRows 69 = .ok (.iload 5, 2) := by decide +kernel
theorem dX0_tryRows_71 : decode cX0_tryRows 71 = .ok (.invokevirtual 48, 3) := by decide +kernel
theorem dX0_tryRows_74 : decode cX0_tryRows 74 = .ok (.iinc 5 1, 3) := by decide +kernel
theorem dX0_tryRows_77 : decode cX0_tryRows 77 = .ok (.goto (-64), 3) := by decide +kernel
theorem dX0_tryRows_80 : decode cX0_tryRows 80 = .ok (.return_, 1) := by decide +kernel
theorem dX0_lowerLeasts_0 : decode cX0_lowerLeasts 0 = .ok (.aload_n 1, 1) := by decide +kernel
theorem dX0_lowerLeasts_1 : decode cX0_lowerLeasts 1 = .ok (.iload_n 2, 1) := by decide +kernel
theorem dX0_lowerLeasts_2 : decode cX0_lowerLeasts 2 = .ok (.iload 4, 2) := by decide +kernel
theorem dX0_lowerLeasts_4 : decode cX0_lowerLeasts 4 = .ok (.invokevirtual 51, 3) := by decide +kernel
theorem dX0_lowerLeasts_7 : decode cX0_lowerLeasts 7 = .ok (.istore 5, 2) := by decide +kernel
theorem dX0_lowerLeasts_9 : decode cX0_lowerLeasts 9 = .ok (.iload_n 3, 1) := by decide +kernel
theorem dX0_lowerLeasts_10 : decode cX0_lowerLeasts 10 = .ok (.bipush 30, 2) := by decide +kernel
theorem dX0_lowerLeasts_12 : decode cX0_lowerLeasts 12 = .ok (.imul, 1) := by decide +kernel
theorem dX0_lowerLeasts_13 : decode cX0_lowerLeasts 13 = .ok (.istore 6, 2) := by decide +kernel
theorem dX0_lowerLeasts_15 : decode cX0_lowerLeasts 15 = .ok (.iconst 0, 1) := by decide +kernel
theorem dX0_lowerLeasts_16 : decode cX0_lowerLeasts 16 = .ok (.istore 7, 2) := by decide +kernel
theorem dX0_lowerLeasts_18 : decode cX0_lowerLeasts 18 = .ok (.iload 7, 2) := by decide +kernel
theorem dX0_lowerLeasts_20 : decode cX0_lowerLeasts 20 = .ok (.aload_n 1, 1) := by decide +kernel
theorem dX0_lowerLeasts_21 : decode cX0_lowerLeasts 21 = .ok (.getfield 32, 3) := by decide +kernel
theorem dX0_lowerLeasts_24 : decode cX0_lowerLeasts 24 = .ok (.if_icmp .ge 45, 3) := by decide +kernel
theorem dX0_lowerLeasts_27 : decode cX0_lowerLeasts 27 = .ok (.aload_n 0, 1) := by decide +kernel
theorem dX0_lowerLeasts_28 : decode cX0_lowerLeasts 28 = .ok (.getfield 21, 3) := by decide +kernel
theorem dX0_lowerLeasts_31 : decode cX0_lowerLeasts 31 = .ok (.iload 6, 2) := by decide +kernel
theorem dX0_lowerLeasts_33 : decode cX0_lowerLeasts 33 = .ok (.bipush 30, 2) := by decide +kernel
theorem dX0_lowerLeasts_35 : decode cX0_lowerLeasts 35 = .ok (.iadd, 1) := by decide +kernel
theorem dX0_lowerLeasts_36 : decode cX0_lowerLeasts 36 = .ok (.iload 7, 2) := by decide +kernel
theorem dX0_lowerLeasts_38 : decode cX0_lowerLeasts 38 = .ok (.iadd, 1) := by decide +kernel
theorem dX0_lowerLeasts_39 : decode cX0_lowerLeasts 39 = .ok (.aload_n 0, 1) := by decide +kernel
theorem dX0_lowerLeasts_40 : decode cX0_lowerLeasts 40 = .ok (.getfield 21, 3) := by decide +kernel
theorem dX0_lowerLeasts_43 : decode cX0_lowerLeasts 43 = .ok (.iload 6, 2) := by decide +kernel
theorem dX0_lowerLeasts_45 : decode cX0_lowerLeasts 45 = .ok (.iload 7, 2) := by decide +kernel
theorem dX0_lowerLeasts_47 : decode cX0_lowerLeasts 47 = .ok (.iadd, 1) := by decide +kernel
theorem dX0_lowerLeasts_48 : decode cX0_lowerLeasts 48 = .ok (.iaload, 1) := by decide +kernel
theorem dX0_lowerLeasts_49 : decode cX0_lowerLeasts 49 = .ok (.aload_n 1, 1) := by decide +kernel
theorem dX0_lowerLeasts_50 : decode cX0_lowerLeasts 50 = .ok (.getfield 55, 3) := by decide +kernel
theorem dX0_lowerLeasts_53 : decode cX0_lowerLeasts 53 = .ok (.iload 5, 2) := by decide +kernel
theorem dX0_lowerLeasts_55 : decode cX0_lowerLeasts 55 = .ok (.iload 7, 2) := by decide +kernel
theorem dX0_lowerLeasts_57 : decode cX0_lowerLeasts 57 = .ok (.iadd, 1) := by decide +kernel
theorem dX0_lowerLeasts_58 : decode cX0_lowerLeasts 58 = .ok (.iaload, 1) := by decide +kernel
theorem dX0_lowerLeasts_59 : decode cX0_lowerLeasts 59 = .ok (.invokestatic 58, 3) := by decide +kernel
theorem dX0_lowerLeasts_62 : decode cX0_lowerLeasts 62 = .ok (.iastore, 1) := by decide +kernel
theorem dX0_lowerLeasts_63 : decode cX0_lowerLeasts 63 = .ok (.iinc 7 1, 3) := by decide +kernel
theorem dX0_lowerLeasts_66 : decode cX0_lowerLeasts 66 = .ok (.goto (-48), 3) := by decide +kernel
theorem dX0_lowerLeasts_69 : decode cX0_lowerLeasts 69 = .ok (.return_, 1) := by decide +kernel
theorem dX0_weighTrial_0 : decode cX0_weighTrial 0 = .ok (.aload_n 1, 1) := by decide +kernel
theorem dX0_weighTrial_1 : decode cX0_weighTrial 1 = .ok (.iload_n 2, 1) := by decide +kernel
theorem dX0_weighTrial_2 : decode cX0_weighTrial 2 = .ok (.iload 4, 2) := by decide +kernel
theorem dX0_weighTrial_4 : decode cX0_weighTrial 4 = .ok (.invokevirtual 51, 3) := by decide +kernel
theorem dX0_weighTrial_7 : decode cX0_weighTrial 7 = .ok (.istore 5, 2) := by decide +kernel
theorem dX0_weighTrial_9 : decode cX0_weighTrial 9 = .ok (.iload_n 3, 1) := by decide +kernel
theorem dX0_weighTrial_10 : decode cX0_weighTrial 10 = .ok (.bipush 30, 2) := by decide +kernel
theorem dX0_weighTrial_12 : decode cX0_weighTrial 12 = .ok (.imul, 1) := by decide +kernel
theorem dX0_weighTrial_13 : decode cX0_weighTrial 13 = .ok (.istore 6, 2) := by decide +kernel
theorem dX0_weighTrial_15 : decode cX0_weighTrial 15 = .ok (.iconst 0, 1) := by decide +kernel
theorem dX0_weighTrial_16 : decode cX0_weighTrial 16 = .ok (.istore 7, 2) := by decide +kernel
theorem dX0_weighTrial_18 : decode cX0_weighTrial 18 = .ok (.iconst 0, 1) := by decide +kernel
theorem dX0_weighTrial_19 : decode cX0_weighTrial 19 = .ok (.istore 8, 2) := by decide +kernel
theorem dX0_weighTrial_21 : decode cX0_weighTrial 21 = .ok (.iload 8, 2) := by decide +kernel
theorem dX0_weighTrial_23 : decode cX0_weighTrial 23 = .ok (.aload_n 1, 1) := by decide +kernel
theorem dX0_weighTrial_24 : decode cX0_weighTrial 24 = .ok (.getfield 32, 3) := by decide +kernel
theorem dX0_weighTrial_27 : decode cX0_weighTrial 27 = .ok (.if_icmp .ge 46, 3) := by decide +kernel
theorem dX0_weighTrial_30 : decode cX0_weighTrial 30 = .ok (.iload 7, 2) := by decide +kernel
theorem dX0_weighTrial_32 : decode cX0_weighTrial 32 = .ok (.aload_n 0, 1) := by decide +kernel
theorem dX0_weighTrial_33 : decode cX0_weighTrial 33 = .ok (.getfield 28, 3) := by decide +kernel
theorem dX0_weighTrial_36 : decode cX0_weighTrial 36 = .ok (.if_icmp .ge 37, 3) := by decide +kernel
theorem dX0_weighTrial_39 : decode cX0_weighTrial 39 = .ok (.iload 7, 2) := by decide +kernel
theorem dX0_weighTrial_41 : decode cX0_weighTrial 41 = .ok (.aload_n 0, 1) := by decide +kernel
theorem dX0_weighTrial_42 : decode cX0_weighTrial 42 = .ok (.getfield 21, 3) := by decide +kernel
theorem dX0_weighTrial_45 : decode cX0_weighTrial 45 = .ok (.iload 6, 2) := by decide +kernel
theorem dX0_weighTrial_47 : decode cX0_weighTrial 47 = .ok (.iload 8, 2) := by decide +kernel
theorem dX0_weighTrial_49 : decode cX0_weighTrial 49 = .ok (.iadd, 1) := by decide +kernel
theorem dX0_weighTrial_50 : decode cX0_weighTrial 50 = .ok (.iaload, 1) := by decide +kernel
theorem dX0_weighTrial_51 : decode cX0_weighTrial 51 = .ok (.aload_n 1, 1) := by decide +kernel
theorem dX0_weighTrial_52 : decode cX0_weighTrial 52 = .ok (.getfield 55, 3) := by decide +kernel
theorem dX0_weighTrial_55 : decode cX0_weighTrial 55 = .ok (.iload 5, 2) := by decide +kernel
theorem dX0_weighTrial_57 : decode cX0_weighTrial 57 = .ok (.iload 8, 2) := by decide +kernel
theorem dX0_weighTrial_59 : decode cX0_weighTrial 59 = .ok (.iadd, 1) := by decide +kernel
theorem dX0_weighTrial_60 : decode cX0_weighTrial 60 = .ok (.iaload, 1) := by decide +kernel
theorem dX0_weighTrial_61 : decode cX0_weighTrial 61 = .ok (.invokestatic 58, 3) := by decide +kernel
theorem dX0_weighTrial_64 : decode cX0_weighTrial 64 = .ok (.iadd, 1) := by decide +kernel
theorem dX0_weighTrial_65 : decode cX0_weighTrial 65 = .ok (.istore 7, 2) := by decide +kernel
theorem dX0_weighTrial_67 : decode cX0_weighTrial 67 = .ok (.iinc 8 1, 3) := by decide +kernel
theorem dX0_weighTrial_70 : decode cX0_weighTrial 70 = .ok (.goto (-49), 3) := by decide +kernel
theorem dX0_weighTrial_73 : decode cX0_weighTrial 73 = .ok (.iload 7, 2) := by decide +kernel
theorem dX0_weighTrial_75 : decode cX0_weighTrial 75 = .ok (.aload_n 0, 1) := by decide +kernel
theorem dX0_weighTrial_76 : decode cX0_weighTrial 76 = .ok (.getfield 28, 3) := by decide +kernel
theorem dX0_weighTrial_79 : decode cX0_weighTrial 79 = .ok (.if_icmp .ge 41, 3) := by decide +kernel
theorem dX0_weighTrial_82 : decode cX0_weighTrial 82 = .ok (.aload_n 0, 1) := by decide +kernel
theorem dX0_weighTrial_83 : decode cX0_weighTrial 83 = .ok (.iload 7, 2) := by decide +kernel
theorem dX0_weighTrial_85 : decode cX0_weighTrial 85 = .ok (.putfield 28, 3) := by decide +kernel
theorem dX0_weighTrial_88 : decode cX0_weighTrial 88 = .ok (.iconst 0, 1) := by decide +kernel
theorem dX0_weighTrial_89 : decode cX0_weighTrial 89 = .ok (.istore 8, 2) := by decide +kernel
theorem dX0_weighTrial_91 : decode cX0_weighTrial 91 = .ok (.iload 8, 2) := by decide +kernel
theorem dX0_weighTrial_93 : decode cX0_weighTrial 93 = .ok (.aload_n 0, 1) := by decide +kernel
theorem dX0_weighTrial_94 : decode cX0_weighTrial 94 = .ok (.getfield 24, 3) := by decide +kernel
theorem dX0_weighTrial_97 : decode cX0_weighTrial 97 = .ok (.if_icmp .ge 23, 3) := by decide +kernel
theorem dX0_weighTrial_100 : decode cX0_weighTrial 100 = .ok (.aload_n 0, 1) := by decide +kernel
theorem dX0_weighTrial_101 : decode cX0_weighTrial 101 = .ok (.getfield 15, 3) := by decide +kernel
theorem dX0_weighTrial_104 : decode cX0_weighTrial 104 = .ok (.iload 8, 2) := by decide +kernel
theorem dX0_weighTrial_106 : decode cX0_weighTrial 106 = .ok (.aload_n 0, 1) := by decide +kernel
theorem dX0_weighTrial_107 : decode cX0_weighTrial 107 = .ok (.getfield 18, 3) := by decide +kernel
theorem dX0_weighTrial_110 : decode cX0_weighTrial 110 = .ok (.iload 8, 2) := by decide +kernel
theorem dX0_weighTrial_112 : decode cX0_weighTrial 112 = .ok (.iaload, 1) := by decide +kernel
theorem dX0_weighTrial_113 : decode cX0_weighTrial 113 = .ok (.iastore, 1) := by decide +kernel
theorem dX0_weighTrial_114 : decode cX0_weighTrial 114 = .ok (.iinc 8 1, 3) := by decide +kernel
theorem dX0_weighTrial_117 : decode cX0_weighTrial 117 = .ok (.goto (-26), 3) := by decide +kernel
theorem dX0_weighTrial_120 : decode cX0_weighTrial 120 = .ok (.return_, 1) := by decide +kernel
theorem dX0_nearestBest_0 : decode cX0_nearestBest 0 = .ok (.iconst 0, 1) := by decide +kernel
theorem dX0_nearestBest_1 : decode cX0_nearestBest 1 = .ok (.istore 4, 2) := by decide +kernel
theorem dX0_nearestBest_3 : decode cX0_nearestBest 3 = .ok (.iconst 1, 1) := by decide +kernel
theorem dX0_nearestBest_4 : decode cX0_nearestBest 4 = .ok (.istore 5, 2) := by decide +kernel
theorem dX0_nearestBest_6 : decode cX0_nearestBest 6 = .ok (.iload 5, 2) := by decide +kernel
theorem dX0_nearestBest_8 : decode cX0_nearestBest 8 = .ok (.aload_n 0, 1) := by decide +kernel
theorem dX0_nearestBest_9 : decode cX0_nearestBest 9 = .ok (.getfield 24, 3) := by decide +kernel
theorem dX0_nearestBest_12 : decode cX0_nearestBest 12 = .ok (.if_icmp .ge 42, 3) := by decide +kernel
theorem dX0_nearestBest_15 : decode cX0_nearestBest 15 = .ok (.aload_n 1, 1) := by decide +kernel
theorem dX0_nearestBest_16 : decode cX0_nearestBest 16 = .ok (.iload_n 2, 1) := by decide +kernel
theorem dX0_nearestBest_17 : decode cX0_nearestBest 17 = .ok (.aload_n 0, 1) := by decide +kernel
theorem dX0_nearestBest_18 : decode cX0_nearestBest 18 = .ok (.getfield 15, 3) := by decide +kernel
theorem dX0_nearestBest_21 : decode cX0_nearestBest 21 = .ok (.iload 5, 2) := by decide +kernel
theorem dX0_nearestBest_23 : decode cX0_nearestBest 23 = .ok (.iaload, 1) := by decide +kernel
theorem dX0_nearestBest_24 : decode cX0_nearestBest 24 = .ok (.iload_n 3, 1) := by decide +kernel
theorem dX0_nearestBest_25 : decode cX0_nearestBest 25 = .ok (.invokevirtual 63, 3) := by decide +kernel
theorem dX0_nearestBest_28 : decode cX0_nearestBest 28 = .ok (.aload_n 1, 1) := by decide +kernel
theorem dX0_nearestBest_29 : decode cX0_nearestBest 29 = .ok (.iload_n 2, 1) := by decide +kernel
theorem dX0_nearestBest_30 : decode cX0_nearestBest 30 = .ok (.aload_n 0, 1) := by decide +kernel
theorem dX0_nearestBest_31 : decode cX0_nearestBest 31 = .ok (.getfield 15, 3) := by decide +kernel
theorem dX0_nearestBest_34 : decode cX0_nearestBest 34 = .ok (.iload 4, 2) := by decide +kernel
theorem dX0_nearestBest_36 : decode cX0_nearestBest 36 = .ok (.iaload, 1) := by decide +kernel
theorem dX0_nearestBest_37 : decode cX0_nearestBest 37 = .ok (.iload_n 3, 1) := by decide +kernel
theorem dX0_nearestBest_38 : decode cX0_nearestBest 38 = .ok (.invokevirtual 63, 3) := by decide +kernel
theorem dX0_nearestBest_41 : decode cX0_nearestBest 41 = .ok (.if_icmp .ge 7, 3) := by decide +kernel
theorem dX0_nearestBest_44 : decode cX0_nearestBest 44 = .ok (.iload 5, 2) := by decide +kernel
theorem dX0_nearestBest_46 : decode cX0_nearestBest 46 = .ok (.istore 4, 2) := by decide +kernel
theorem dX0_nearestBest_48 : decode cX0_nearestBest 48 = .ok (.iinc 5 1, 3) := by decide +kernel
theorem dX0_nearestBest_51 : decode cX0_nearestBest 51 = .ok (.goto (-45), 3) := by decide +kernel
theorem dX0_nearestBest_54 : decode cX0_nearestBest 54 = .ok (.iload 4, 2) := by decide +kernel
theorem dX0_nearestBest_56 : decode cX0_nearestBest 56 = .ok (.ireturn, 1) := by decide +kernel
theorem dX1_init_0 : decode cX1_init 0 = .ok (.aload_n 0, 1) := by decide +kernel
theorem dX1_init_1 : decode cX1_init 1 = .ok (.invokespecial 3, 3) := by decide +kernel
theorem dX1_init_4 : decode cX1_init 4 = .ok (.aload_n 0, 1) := by decide +kernel
theorem dX1_init_5 : decode cX1_init 5 = .ok (.bipush 30, 2) := by decide +kernel
theorem dX1_init_7 : decode cX1_init 7 = .ok (.newarray .int, 2) := by decide +kernel
theorem dX1_init_9 : decode cX1_init 9 = .ok (.putfield 9, 3) := by decide +kernel
theorem dX1_init_12 : decode cX1_init 12 = .ok (.aload_n 0, 1) := by decide +kernel
theorem dX1_init_13 : decode cX1_init 13 = .ok (.bipush 30, 2) := by decide +kernel
theorem dX1_init_15 : decode cX1_init 15 = .ok (.newarray .boolean, 2) := by decide +kernel
theorem dX1_init_17 : decode cX1_init 17 = .ok (.putfield 15, 3) := by decide +kernel
theorem dX1_init_20 : decode cX1_init 20 = .ok (.aload_n 0, 1) := by decide +kernel
theorem dX1_init_21 : decode cX1_init 21 = .ok (.bipush 30, 2) := by decide +kernel
theorem dX1_init_23 : decode cX1_init 23 = .ok (.newarray .int, 2) := by decide +kernel
theorem dX1_init_25 : decode cX1_init 25 = .ok (.putfield 19, 3) := by decide +kernel
theorem dX1_init_28 : decode cX1_init 28 = .ok (.return_, 1) := by decide +kernel
theorem dX1_spread_0 : decode cX1_spread 0 = .ok (.iconst 0, 1) := by decide +kernel
theorem dX1_spread_1 : decode cX1_spread 1 = .ok (.istore 5, 2) := by decide +kernel
theorem dX1_spread_3 : decode cX1_spread 3 = .ok (.iload 5, 2) := by decide +kernel
theorem dX1_spread_5 : decode cX1_spread 5 = .ok (.aload_n 1, 1) := by decide +kernel
theorem dX1_spread_6 : decode cX1_spread 6 = .ok (.getfield 22, 3) := by decide +kernel
theorem dX1_spread_9 : decode cX1_spread 9 = .ok (.if_icmp .ge 43, 3) := by decide +kernel
theorem dX1_spread_12 : decode cX1_spread 12 = .ok (.aload_n 0, 1) := by decide +kernel
theorem dX1_spread_13 : decode cX1_spread 13 = .ok (.getfield 9, 3) := by decide +kernel
theorem dX1_spread_16 : decode cX1_spread 16 = .ok (.iload 5, 2) := by decide +kernel
theorem dX1_spread_18 : decode cX1_spread 18 = .ok (.iconst (-1), 1) := by decide +kernel
theorem dX1_spread_19 : decode cX1_spread 19 = .ok (.iastore, 1) := by decide +kernel
theorem dX1_spread_20 : decode cX1_spread 20 = .ok (.aload_n 0, 1) := by decide +kernel
theorem dX1_spread_21 : decode cX1_spread 21 = .ok (.getfield 15, 3) := by decide +kernel
theorem dX1_spread_24 : decode cX1_spread 24 = .ok (.iload 5, 2) := by decide +kernel
theorem dX1_spread_26 : decode cX1_spread 26 = .ok (.aload_n 0, 1) := by decide +kernel
theorem dX1_spread_27 : decode cX1_spread 27 = .ok (.aload_n 1, 1) := by decide +kernel
theorem dX1_spread_28 : decode cX1_spread 28 = .ok (.iload_n 2, 1) := by decide +kernel
theorem dX1_spread_29 : decode cX1_spread 29 = .ok (.iload_n 3, 1) := by decide +kernel
theorem dX1_spread_30 : decode cX1_spread 30 = .ok (.iload 5, 2) := by decide +kernel
theorem dX1_spread_32 : decode cX1_spread 32 = .ok (.invokevirtual 28, 3) := by decide +kernel
theorem dX1_spread_35 : decode cX1_spread 35 = .ok (.iload 4, 2) := by decide +kernel
theorem dX1_spread_37 : decode cX1_spread 37 = .ok (.if_icmp .lt 7, 3) := by decide +kernel
theorem dX1_spread_40 : decode cX1_spread 40 = .ok (.iconst 1, 1) := by decide +kernel
theorem dX1_spread_41 : decode cX1_spread 41 = .ok (.goto 4, 3) := by decide +kernel
theorem dX1_spread_44 : decode cX1_spread 44 = .ok (.iconst 0, 1) := by decide +kernel
theorem dX1_spread_45 : decode cX1_spread 45 = .ok (.bastore, 1) := by decide +kernel
theorem dX1_spread_46 : decode cX1_spread 46 = .ok (.iinc 5 1, 3) := by decide +kernel
theorem dX1_spread_49 : decode cX1_spread 49 = .ok (.goto (-46), 3) := by decide +kernel
theorem dX1_spread_52 : decode cX1_spread 52 = .ok (.iconst 0, 1) := by decide +kernel
theorem dX1_spread_53 : decode cX1_spread 53 = .ok (.istore 5, 2) := by decide +kernel
theorem dX1_spread_55 : decode cX1_spread 55 = .ok (.iconst 0, 1) := by decide +kernel
theorem dX1_spread_56 : decode cX1_spread 56 = .ok (.istore 6, 2) := by decide +kernel
theorem dX1_spread_58 : decode cX1_spread 58 = .ok (.iload 6, 2) := by decide +kernel
theorem dX1_spread_60 : decode cX1_spread 60 = .ok (.aload_n 1, 1) := by decide +kernel
theorem dX1_spread_61 : decode cX1_spread 61 = .ok (.getfield 22, 3) := by decide +kernel
theorem dX1_spread_64 : decode cX1_spread 64 = .ok (.if_icmp .ge 44, 3) := by decide +kernel
theorem dX1_spread_67 : decode cX1_spread 67 = .ok (.aload_n 0, 1) := by decide +kernel
theorem dX1_spread_68 : decode cX1_spread 68 = .ok (.getfield 15, 3) := by decide +kernel
theorem dX1_spread_71 : decode cX1_spread 71 = .ok (.iload 6, 2) := by decide +kernel
theorem dX1_spread_73 : decode cX1_spread 73 = .ok (.baload, 1) := by decide +kernel
theorem dX1_spread_74 : decode cX1_spread 74 = .ok (.ifCond .eq 28, 3) := by decide +kernel
theorem dX1_spread_77 : decode cX1_spread 77 = .ok (.aload_n 0, 1) := by decide +kernel
theorem dX1_spread_78 : decode cX1_spread 78 = .ok (.getfield 9, 3) := by decide +kernel
theorem dX1_spread_81 : decode cX1_spread 81 = .ok (.iload 6, 2) := by decide +kernel
theorem dX1_spread_83 : decode cX1_spread 83 = .ok (.iaload, 1) := by decide +kernel
theorem dX1_spread_84 : decode cX1_spread 84 = .ok (.iconst (-1), 1) := by decide +kernel
theorem dX1_spread_85 : decode cX1_spread 85 = .ok (.if_icmp .ne 17, 3) := by decide +kernel
theorem dX1_spread_88 : decode cX1_spread 88 = .ok (.aload_n 0, 1) := by decide +kernel
theorem dX1_spread_89 : decode cX1_spread 89 = .ok (.aload_n 1, 1) := by decide +kernel
theorem dX1_spread_90 : decode cX1_spread 90 = .ok (.iload_n 2, 1) := by decide +kernel
theorem dX1_spread_91 : decode cX1_spread 91 = .ok (.iload_n 3, 1) := by decide +kernel
theorem dX1_spread_92 : decode cX1_spread 92 = .ok (.iload 6, 2) := by decide +kernel
theorem dX1_spread_94 : decode cX1_spread 94 = .ok (.iload 5, 2) := by decide +kernel
theorem dX1_spread_96 : decode cX1_spread 96 = .ok (.invokevirtual 32, 3) := by decide +kernel
theorem dX1_spread_99 : decode cX1_spread 99 = .ok (.iinc 5 1, 3) := by decide +kernel
theorem dX1_spread_102 : decode cX1_spread 102 = .ok (.iinc 6 1, 3) := by decide +kernel
theorem dX1_spread_105 : decode cX1_spread 105 = .ok (.goto (-47), 3) := by decide +kernel
theorem dX1_spread_108 : decode cX1_spread 108 = .ok (.iconst 0, 1) := by decide +kernel
theorem dX1_spread_109 : decode cX1_spread 109 = .ok (.istore 6, 2) := by decide +kernel
theorem dX1_spread_111 : decode cX1_spread 111 = .ok (.iload 6, 2) := by decide +kernel
theorem dX1_spread_113 : decode cX1_spread 113 = .ok (.aload_n 1, 1) := by decide +kernel
theorem dX1_spread_114 : decode cX1_spread 114 = .ok (.getfield 22, 3) := by decide +kernel
theorem dX1_spread_117 : decode cX1_spread 117 = .ok (.if_icmp .ge 35, 3) := by decide +kernel
theorem dX1_spread_120 : decode cX1_spread 120 = .ok (.aload_n 0, 1) := by decide +kernel
theorem dX1_spread_121 : decode cX1_spread 121 = .ok (.getfield 15, 3) := by decide +kernel
theorem dX1_spread_124 : decode cX1_spread 124 = .ok (.iload 6, 2) := by decide +kernel
theorem dX1_spread_126 : decode cX1_spread 126 = .ok (.baload, 1) := by decide +kernel
theorem dX1_spread_127 : decode cX1_spread 127 = .ok (.ifCond .ne 19, 3) := by decide +kernel
theorem dX1_spread_130 : decode cX1_spread 130 = .ok (.aload_n 0, 1) := by decide +kernel
theorem dX1_spread_131 : decode cX1_spread 131 = .ok (.getfield 9, 3) := by decide +kernel
theorem dX1_spread_134 : decode cX1_spread 134 = .ok (.iload 6, 2) := by decide +kernel
theorem dX1_spread_136 : decode cX1_spread 136 = .ok (.aload_n 0, 1) := by decide +kernel
theorem dX1_spread_137 : decode cX1_spread 137 = .ok (.aload_n 1, 1) := by decide +kernel
theorem dX1_spread_138 : decode cX1_spread 138 = .ok (.iload_n 2, 1) := by decide +kernel
theorem dX1_spread_139 : decode cX1_spread 139 = .ok (.iload_n 3, 1) := by decide +kernel
theorem dX1_spread_140 : decode cX1_spread 140 = .ok (.iload 6, 2) := by decide +kernel
theorem dX1_spread_142 : decode cX1_spread 142 = .ok (.invokevirtual 36, 3) := by decide +kernel
theorem dX1_spread_145 : decode cX1_spread 145 = .ok (.iastore, 1) := by decide +kernel
theorem dX1_spread_146 : decode cX1_spread 146 = .ok (.iinc 6 1, 3) := by decide +kernel
theorem dX1_spread_149 : decode cX1_spread 149 = .ok (.goto (-38), 3) := by decide +kernel
theorem dX1_spread_152 : decode cX1_spread 152 = .ok (.iload 5, 2) := by decide +kernel
theorem dX1_spread_154 : decode cX1_spread 154 = .ok (.ireturn, 1) := by decide +kernel
theorem dX1_rowsWithin_0 : decode cX1_rowsWithin 0 = .ok (.iconst 0, 1) := by decide +kernel
theorem dX1_rowsWithin_1 : decode cX1_rowsWithin 1 = .ok (.istore 5, 2) := by decide +kernel
theorem dX1_rowsWithin_3 : decode cX1_rowsWithin 3 = .ok (.iconst 0, 1) := by decide +kernel
theorem dX1_rowsWithin_4 : decode cX1_rowsWithin 4 = .ok (.istore 6, 2) := by decide +kernel
theorem dX1_rowsWithin_6 : decode cX1_rowsWithin 6 = .ok (.iload 6, 2) := by decide +kernel
theorem dX1_rowsWithin_8 : decode cX1_rowsWithin 8 = .ok (.aload_n 1, 1) := by decide +kernel
theorem dX1_rowsWithin_9 : decode cX1_rowsWithin 9 = .ok (.getfield 22, 3) := by decide +kernel
theorem dX1_rowsWithin_12 : decode cX1_rowsWithin 12 = .ok (.if_icmp .ge 25, 3) := by decide +kernel
theorem dX1_rowsWithin_15 : decode cX1_rowsWithin 15 = .ok (.aload_n 1, 1) := by decide +kernel
theorem dX1_rowsWithin_16 : decode cX1_rowsWithin 16 = .ok (.iload_n 2, 1) := by decide +kernel
theorem dX1_rowsWithin_17 : decode cX1_rowsWithin 17 = .ok (.iload 4, 2) := by decide +kernel
theorem dX1_rowsWithin_19 : decode cX1_rowsWithin 19 = .ok (.iload 6, 2) := by decide +kernel
theorem dX1_rowsWithin_21 : decode cX1_rowsWithin 21 = .ok (.invokevirtual 39, 3) := by decide +kernel
theorem dX1_rowsWithin_24 : decode cX1_rowsWithin 24 = .ok (.iload_n 3, 1) := by decide +kernel
theorem dX1_rowsWithin_25 : decode cX1_rowsWithin 25 = .ok (.if_icmp .gt 6, 3) := by decide +kernel
theorem dX1_rowsWithin_28 : decode cX1_rowsWithin 28 = .ok (.iinc 5 1, 3) := by decide +kernel
theorem dX1_rowsWithin_31 : decode cX1_rowsWithin 31 = .ok (.iinc 6 1, 3) := by decide +kernel
theorem dX1_rowsWithin_34 : decode cX1_rowsWithin 34 = .ok (.goto (-28), 3) := by decide +kernel
theorem dX1_rowsWithin_37 : decode cX1_rowsWithin 37 = .ok (.iload 5, 2) := by decide +kernel
theorem dX1_rowsWithin_39 : decode cX1_rowsWithin 39 = .ok (.ireturn, 1) := by decide +kernel
theorem dX1_spreadFrom_0 : decode cX1_spreadFrom 0 = .ok (.aload_n 0, 1) := by decide +kernel
theorem dX1_spreadFrom_1 : decode cX1_spreadFrom 1 = .ok (.getfield 9, 3) := by decide +kernel
theorem dX1_spreadFrom_4 : decode cX1_spreadFrom 4 = .ok (.iload 4, 2) := by decide +kernel
theorem dX1_spreadFrom_6 : decode cX1_spreadFrom 6 = .ok (.iload 5, 2) := by decide +kernel
theorem dX1_spreadFrom_8 : decode cX1_spreadFrom 8 = .ok (.iastore, 1) := by decide +kernel
theorem dX1_spreadFrom_9 : decode cX1_spreadFrom 9 = .ok (.aload_n 0, 1) := by decide +kernel
theorem dX1_spreadFrom_10 : decode cX1_spreadFrom 10 = .ok (.getfield 19, 3) := by decide +kernel
theorem dX1_spreadFrom_13 : decode cX1_spreadFrom 13 = .ok (.iconst 0, 1) := by decide +kernel
theorem dX1_spreadFrom_14 : decode cX1_spreadFrom 14 = .ok (.iload 4, 2) := by decide +kernel
theorem dX1_spreadFrom_16 : decode cX1_spreadFrom 16 = .ok (.iastore, 1) := by decide +kernel
theorem dX1_spreadFrom_17 : decode cX1_spreadFrom 17 = .ok (.iconst 1, 1) := by decide +kernel
theorem dX1_spreadFrom_18 : decode cX1_spreadFrom 18 = .ok (.istore 6, 2) := by decide +kernel
theorem dX1_spreadFrom_20 : decode cX1_spreadFrom 20 = .ok (.iconst 0, 1) := by decide +kernel
theorem dX1_spreadFrom_21 : decode cX1_spreadFrom 21 = .ok (.istore 7, 2) := by decide +kernel
theorem dX1_spreadFrom_23 : decode cX1_spreadFrom 23 = .ok (.iload 7, 2) := by decide +kernel
theorem dX1_spreadFrom_25 : decode cX1_spreadFrom 25 = .ok (.iload 6, 2) := by decide +kernel
theorem dX1_spreadFrom_27 : decode cX1_spreadFrom 27 = .ok (.if_icmp .ge 94, 3) := by decide +kernel
theorem dX1_spreadFrom_30 : decode cX1_spreadFrom 30 = .ok (.iload 7, 2) := by decide +kernel
theorem dX1_spreadFrom_32 : decode cX1_spreadFrom 32 = .ok (.bipush 30, 2) := by decide +kernel
theorem dX1_spreadFrom_34 : decode cX1_spreadFrom 34 = .ok (.if_icmp .ge 87, 3) := by decide +kernel
theorem dX1_spreadFrom_37 : decode cX1_spreadFrom 37 = .ok (.iconst 0, 1) := by decide +kernel
theorem dX1_spreadFrom_38 : decode cX1_spreadFrom 38 = .ok (.istore 8, 2) := by decide +kernel
theorem dX1_spreadFrom_40 : decode cX1_spreadFrom 40 = .ok (.iload 8, 2) := by decide +kernel
theorem dX1_spreadFrom_42 : decode cX1_spreadFrom 42 = .ok (.aload_n 1, 1) := by decide +kernel
theorem dX1_spreadFrom_43 : decode cX1_spreadFrom 43 = .ok (.getfield 22, 3) := by decide +kernel
theorem dX1_spreadFrom_46 : decode cX1_spreadFrom 46 = .ok (.if_icmp .ge 69, 3) := by decide +kernel
theorem dX1_spreadFrom_49 : decode cX1_spreadFrom 49 = .ok (.aload_n 0, 1) := by decide +kernel
theorem dX1_spreadFrom_50 : decode cX1_spreadFrom 50 = .ok (.getfield 15, 3) := by decide +kernel
theorem dX1_spreadFrom_53 : decode cX1_spreadFrom 53 = .ok (.iload 8, 2) := by decide +kernel
theorem dX1_spreadFrom_55 : decode cX1_spreadFrom 55 = .ok (.baload, 1) := by decide +kernel
theorem dX1_spreadFrom_56 : decode cX1_spreadFrom 56 = .ok (.ifCond .eq 53, 3) := by decide +kernel
theorem dX1_spreadFrom_59 : decode cX1_spreadFrom 59 = .ok (.aload_n 0, 1) := by decide +kernel
theorem dX1_spreadFrom_60 : decode cX1_spreadFrom 60 = .ok (.getfield 9, 3) := by decide +kernel
theorem dX1_spreadFrom_63 : decode cX1_spreadFrom 63 = .ok (.iload 8, 2) := by decide +kernel
theorem dX1_spreadFrom_65 : decode cX1_spreadFrom 65 = .ok (.iaload, 1) := by decide +kernel
theorem dX1_spreadFrom_66 : decode cX1_spreadFrom 66 = .ok (.iconst (-1), 1) := by decide +kernel
theorem dX1_spreadFrom_67 : decode cX1_spreadFrom 67 = .ok (.if_icmp .ne 42, 3) := by decide +kernel
theorem dX1_spreadFrom_70 : decode cX1_spreadFrom 70 = .ok (.aload_n 1, 1) := by decide +kernel
theorem dX1_spreadFrom_71 : decode cX1_spreadFrom 71 = .ok (.iload_n 2, 1) := by decide +kernel
theorem dX1_spreadFrom_72 : decode cX1_spreadFrom 72 = .ok (.aload_n 0, 1) := by decide +kernel
theorem dX1_spreadFrom_73 : decode cX1_spreadFrom 73 = .ok (.getfield 19, 3) := by decide +kernel
theorem dX1_spreadFrom_76 : decode cX1_spreadFrom 76 = .ok (.iload 7, 2) := by decide +kernel
theorem dX1_spreadFrom_78 : decode cX1_spreadFrom 78 = .ok (.iaload, 1) := by decide +kernel
theorem dX1_spreadFrom_79 : decode cX1_spreadFrom 79 = .ok (.iload 8, 2) := by decide +kernel
theorem dX1_spreadFrom_81 : decode cX1_spreadFrom 81 = .ok (.invokevirtual 39, 3) := by decide +kernel
theorem dX1_spreadFrom_84 : decode cX1_spreadFrom 84 = .ok (.iload_n 3, 1) := by decide +kernel
theorem dX1_spreadFrom_85 : decode cX1_spreadFrom 85 = .ok (.if_icmp .gt 24, 3) := by decide +kernel
theorem dX1_spreadFrom_88 : decode cX1_spreadFrom 88 = .ok (.aload_n 0, 1) := by decide +kernel
theorem dX1_spreadFrom_89 : decode cX1_spreadFrom 89 = .ok (.getfield 9, 3) := by decide +kernel
theorem dX1_spreadFrom_92 : decode cX1_spreadFrom 92 = .ok (.iload 8, 2) := by decide +kernel
theorem dX1_spreadFrom_94 : decode cX1_spreadFrom 94 = .ok (.iload 5, 2) := by decide +kernel
theorem dX1_spreadFrom_96 : decode cX1_spreadFrom 96 = .ok (.iastore, 1) := by decide +kernel
theorem dX1_spreadFrom_97 : decode cX1_spreadFrom 97 = .ok (.aload_n 0, 1) := by decide +kernel
theorem dX1_spreadFrom_98 : decode cX1_spreadFrom 98 = .ok (.getfield 19, 3) := by decide +kernel
theorem dX1_spreadFrom_101 : decode cX1_spreadFrom 101 = .ok (.iload 6, 2) := by decide +kernel
theorem dX1_spreadFrom_103 : decode cX1_spreadFrom 103 = .ok (.iload 8, 2) := by decide +kernel
theorem dX1_spreadFrom_105 : decode cX1_spreadFrom 105 = .ok (.iastore, 1) := by decide +kernel
theorem dX1_spreadFrom_106 : decode cX1_spreadFrom 106 = .ok (.iinc 6 1, 3) := by decide +kernel
theorem dX1_spreadFrom_109 : decode cX1_spreadFrom 109 = .ok (.iinc 8 1, 3) := by decide +kernel
theorem dX1_spreadFrom_112 : decode cX1_spreadFrom 112 = .ok (.goto (-72), 3) := by decide +kernel
theorem dX1_spreadFrom_115 : decode cX1_spreadFrom 115 = .ok (.iinc 7 1, 3) := by decide +kernel
theorem dX1_spreadFrom_118 : decode cX1_spreadFrom 118 = .ok (.goto (-95), 3) := by decide +kernel
theorem dX1_spreadFrom_121 : decode cX1_spreadFrom 121 = .ok (.return_, 1) := by decide +kernel
theorem dX1_leastGroupWithin_0 : decode cX1_leastGroupWithin 0 = .ok (.iconst (-1), 1) := by decide +kernel
theorem dX1_leastGroupWithin_1 : decode cX1_leastGroupWithin 1 = .ok (.istore 5, 2) := by decide +kernel
theorem dX1_leastGroupWithin_3 : decode cX1_leastGroupWithin 3 = .ok (.iconst 0, 1) := by decide +kernel
theorem dX1_leastGroupWithin_4 : decode cX1_leastGroupWithin 4 = .ok (.istore 6, 2) := by decide +kernel
theorem dX1_leastGroupWithin_6 : decode cX1_leastGroupWithin 6 = .ok (.iload 6, 2) := by decide +kernel
theorem dX1_leastGroupWithin_8 : decode cX1_leastGroupWithin 8 = .ok (.aload_n 1, 1) := by decide +kernel
theorem dX1_leastGroupWithin_9 : decode cX1_leastGroupWithin 9 = .ok (.getfield 22, 3) := by decide +kernel
theorem dX1_leastGroupWithin_12 : decode cX1_leastGroupWithin 12 = .ok (.if_icmp .ge 59, 3) := by decide +kernel
theorem dX1_leastGroupWithin_15 : decode cX1_leastGroupWithin 15 = .ok (.aload_n 0, 1) := by decide +kernel
theorem dX1_leastGroupWithin_16 : decode cX1_leastGroupWithin 16 = .ok (.getfield 15, 3) := by decide +kernel
theorem dX1_leastGroupWithin_19 : decode cX1_leastGroupWithin 19 = .ok (.iload 6, 2) := by decide +kernel
theorem dX1_leastGroupWithin_21 : decode cX1_leastGroupWithin 21 = .ok (.baload, 1) := by decide +kernel
theorem dX1_leastGroupWithin_22 : decode cX1_leastGroupWithin 22 = .ok (.ifCond .eq 43, 3) := by decide +kernel
theorem dX1_leastGroupWithin_25 : decode cX1_leastGroupWithin 25 = .ok (.aload_n 1, 1) := by decide +kernel
theorem dX1_leastGroupWithin_26 : decode cX1_leastGroupWithin 26 = .ok (.iload_n 2, 1) := by decide +kernel
theorem dX1_leastGroupWithin_27 : decode cX1_leastGroupWithin 27 = .ok (.iload 4, 2) := by decide +kernel
theorem dX1_leastGroupWithin_29 : decode cX1_leastGroupWithin 29 = .ok (.iload 6, 2) := by decide +kernel
theorem dX1_leastGroupWithin_31 : decode cX1_leastGroupWithin 31 = .ok (.invokevirtual 39, 3) := by decide +kernel
theorem dX1_leastGroupWithin_34 : decode cX1_leastGroupWithin 34 = .ok (.iload_n 3, 1) := by decide +kernel
theorem dX1_leastGroupWithin_35 : decode cX1_leastGroupWithin 35 = .ok (.if_icmp .gt 30, 3) := by decide +kernel
theorem dX1_leastGroupWithin_38 : decode cX1_leastGroupWithin 38 = .ok (.iload 5, 2) := by decide +kernel
theorem dX1_leastGroupWithin_40 : decode cX1_leastGroupWithin 40 = .ok (.iconst (-1), 1) := by decide +kernel
theorem dX1_leastGroupWithin_41 : decode cX1_leastGroupWithin 41 = .ok (.if_icmp .eq 15, 3) := by decide +kernel
theorem dX1_leastGroupWithin_44 : decode cX1_leastGroupWithin 44 = .ok (.aload_n 0, 1) := by decide +kernel
theorem dX1_leastGroupWithin_45 : decode cX1_leastGroupWithin 45 = .ok (.getfield 9, 3) := by decide +kernel
theorem dX1_leastGroupWithin_48 : decode cX1_leastGroupWithin 48 = .ok (.iload 6, 2) := by decide +kernel
theorem dX1_leastGroupWithin_50 : decode cX1_leastGroupWithin 50 = .ok (.iaload, 1) := by decide +kernel
theorem dX1_leastGroupWithin_51 : decode cX1_leastGroupWithin 51 = .ok (.iload 5, 2) := by decide +kernel
theorem dX1_leastGroupWithin_53 : decode cX1_leastGroupWithin 53 = .ok (.if_icmp .ge 12, 3) := by decide +kernel
theorem dX1_leastGroupWithin_56 : decode cX1_leastGroupWithin 56 = .ok (.aload_n 0, 1) := by decide +kernel
theorem dX1_leastGroupWithin_57 : decode cX1_leastGroupWithin 57 = .ok (.getfield 9, 3) := by decide +kernel
theorem dX1_leastGroupWithin_60 : decode cX1_leastGroupWithin 60 = .ok (.iload 6, 2) := by decide +kernel
theorem dX1_leastGroupWithin_62 : decode cX1_leastGroupWithin 62 = .ok (.iaload, 1) := by decide +kernel
theorem dX1_leastGroupWithin_63 : decode cX1_leastGroupWithin 63 = .ok (.istore 5, 2) := by decide +kernel
theorem dX1_leastGroupWithin_65 : decode cX1_leastGroupWithin 65 = .ok (.iinc 6 1, 3) := by decide +kernel
theorem dX1_leastGroupWithin_68 : decode cX1_leastGroupWithin 68 = .ok (.goto (-62), 3) := by decide +kernel
theorem dX1_leastGroupWithin_71 : decode cX1_leastGroupWithin 71 = .ok (.iload 5, 2) := by decide +kernel
theorem dX1_leastGroupWithin_73 : decode cX1_leastGroupWithin 73 = .ok (.ireturn, 1) := by decide +kernel
theorem dX2_init_0 : decode cX2_init 0 = .ok (.aload_n 0, 1) := by decide +kernel
theorem dX2_init_1 : decode cX2_init 1 = .ok (.invokespecial 1, 3) := by decide +kernel
theorem dX2_init_4 : decode cX2_init 4 = .ok (.aload_n 0, 1) := by decide +kernel
theorem dX2_init_5 : decode cX2_init 5 = .ok (.lconst 0, 1) := by decide +kernel
theorem dX2_init_6 : decode cX2_init 6 = .ok (.putfield 7, 3) := by decide +kernel
theorem dX2_init_9 : decode cX2_init 9 = .ok (.aload_n 0, 1) := by decide +kernel
theorem dX2_init_10 : decode cX2_init 10 = .ok (.lconst 1, 1) := by decide +kernel
theorem dX2_init_11 : decode cX2_init 11 = .ok (.putfield 13, 3) := by decide +kernel
theorem dX2_init_14 : decode cX2_init 14 = .ok (.return_, 1) := by decide +kernel
theorem dX2_put_0 : decode cX2_put 0 = .ok (.lload_n 1, 1) := by decide +kernel
theorem dX2_put_1 : decode cX2_put 1 = .ok (.invokestatic 16, 3) := by decide +kernel
theorem dX2_put_4 : decode cX2_put 4 = .ok (.lload_n 3, 1) := by decide +kernel
theorem dX2_put_5 : decode cX2_put 5 = .ok (.invokestatic 22, 3) := by decide +kernel
theorem dX2_put_8 : decode cX2_put 8 = .ok (.lstore 5, 2) := by decide +kernel
theorem dX2_put_10 : decode cX2_put 10 = .ok (.lload 5, 2) := by decide +kernel
theorem dX2_put_12 : decode cX2_put 12 = .ok (.lconst 0, 1) := by decide +kernel
theorem dX2_put_13 : decode cX2_put 13 = .ok (.lcmp, 1) := by decide +kernel
theorem dX2_put_14 : decode cX2_put 14 = .ok (.ifCond .le 19, 3) := by decide +kernel
theorem dX2_put_17 : decode cX2_put 17 = .ok (.aload_n 0, 1) := by decide +kernel
theorem dX2_put_18 : decode cX2_put 18 = .ok (.lload_n 1, 1) := by decide +kernel
theorem dX2_put_19 : decode cX2_put 19 = .ok (.lload 5, 2) := by decide +kernel
theorem dX2_put_21 : decode cX2_put 21 = .ok (.ldiv, 1) := by decide +kernel
theorem dX2_put_22 : decode cX2_put 22 = .ok (.putfield 7, 3) := by decide +kernel
theorem dX2_put_25 : decode cX2_put 25 = .ok (.aload_n 0, 1) := by decide +kernel
theorem dX2_put_26 : decode cX2_put 26 = .ok (.lload_n 3, 1) := by decide +kernel
theorem dX2_put_27 : decode cX2_put 27 = .ok (.lload 5, 2) := by decide +kernel
theorem dX2_put_29 : decode cX2_put 29 = .ok (.ldiv, 1) := by decide +kernel
theorem dX2_put_30 : decode cX2_put 30 = .ok (.putfield 13, 3) := by decide +kernel
theorem dX2_put_33 : decode cX2_put 33 = .ok (.return_, 1) := by decide +kernel
theorem dX2_add_0 : decode cX2_add 0 = .ok (.aload_n 0, 1) := by decide +kernel
theorem dX2_add_1 : decode cX2_add 1 = .ok (.aload_n 0, 1) := by decide +kernel
theorem dX2_add_2 : decode cX2_add 2 = .ok (.getfield 7, 3) := by decide +kernel
theorem dX2_add_5 : decode cX2_add 5 = .ok (.lload_n 3, 1) := by decide +kernel
theorem dX2_add_6 : decode cX2_add 6 = .ok (.lmul, 1) := by decide +kernel
theorem dX2_add_7 : decode cX2_add 7 = .ok (.lload_n 1, 1) := by decide +kernel
theorem dX2_add_8 : decode cX2_add 8 = .ok (.aload_n 0, 1) := by decide +kernel
theorem dX2_add_9 : decode cX2_add 9 = .ok (.getfield 13, 3) := by decide +kernel
theorem dX2_add_12 : decode cX2_add 12 = .ok (.lmul, 1) := by decide +kernel
theorem dX2_add_13 : decode cX2_add 13 = .ok (.ladd, 1) := by decide +kernel
theorem dX2_add_14 : decode cX2_add 14 = .ok (.aload_n 0, 1) := by decide +kernel
theorem dX2_add_15 : decode cX2_add 15 = .ok (.getfield 13, 3) := by decide +kernel
theorem dX2_add_18 : decode cX2_add 18 = .ok (.lload_n 3, 1) := by decide +kernel
theorem dX2_add_19 : decode cX2_add 19 = .ok (.lmul, 1) := by decide +kernel
theorem dX2_add_20 : decode cX2_add 20 = .ok (.invokevirtual 26, 3) := by decide +kernel
theorem dX2_add_23 : decode cX2_add 23 = .ok (.return_, 1) := by decide +kernel
theorem dX2_part_0 : decode cX2_part 0 = .ok (.iload_n 1, 1) := by decide +kernel
theorem dX2_part_1 : decode cX2_part 1 = .ok (.ifCond .ne 10, 3) := by decide +kernel
theorem dX2_part_4 : decode cX2_part 4 = .ok (.aload_n 0, 1) := by decide +kernel
theorem dX2_part_5 : decode cX2_part 5 = .ok (.getfield 7, 3) := by decide +kernel
theorem dX2_part_8 : decode cX2_part 8 = .ok (.goto 7, 3) := by decide +kernel
theorem dX2_part_11 : decode cX2_part 11 = .ok (.aload_n 0, 1) := by decide +kernel
theorem dX2_part_12 : decode cX2_part 12 = .ok (.getfield 13, 3) := by decide +kernel
theorem dX2_part_15 : decode cX2_part 15 = .ok (.lreturn, 1) := by decide +kernel
theorem dX2_commonDivisor_0 : decode cX2_commonDivisor 0 = .ok (.lload_n 0, 1) := by decide +kernel
theorem dX2_commonDivisor_1 : decode cX2_commonDivisor 1 = .ok (.lstore 4, 2) := by decide +kernel
theorem dX2_commonDivisor_3 : decode cX2_commonDivisor 3 = .ok (.lload_n 2, 1) := by decide +kernel
theorem dX2_commonDivisor_4 : decode cX2_commonDivisor 4 = .ok (.lstore 6, 2) := by decide +kernel
theorem dX2_commonDivisor_6 : decode cX2_commonDivisor 6 = .ok (.iconst 0, 1) := by decide +kernel
theorem dX2_commonDivisor_7 : decode cX2_commonDivisor 7 = .ok (.istore 8, 2) := by decide +kernel
theorem dX2_commonDivisor_9 : decode cX2_commonDivisor 9 = .ok (.iload 8, 2) := by decide +kernel
theorem dX2_commonDivisor_11 : decode cX2_commonDivisor 11 = .ok (.sipush 200, 3) := by decide +kernel
theorem dX2_commonDivisor_14 : decode cX2_commonDivisor 14 = .ok (.if_icmp .ge 31, 3) := by decide +kernel
theorem dX2_commonDivisor_17 : decode cX2_commonDivisor 17 = .ok (.lload 6, 2) := by decide +kernel
theorem dX2_commonDivisor_19 : decode cX2_commonDivisor 19 = .ok (.lconst 0, 1) := by decide +kernel
theorem dX2_commonDivisor_20 : decode cX2_commonDivisor 20 = .ok (.lcmp, 1) := by decide +kernel
theorem dX2_commonDivisor_21 : decode cX2_commonDivisor 21 = .ok (.ifCond .eq 24, 3) := by decide +kernel
theorem dX2_commonDivisor_24 : decode cX2_commonDivisor 24 = .ok (.lload 4, 2) := by decide +kernel
theorem dX2_commonDivisor_26 : decode cX2_commonDivisor 26 = .ok (.lload 6, 2) := by decide +kernel
theorem dX2_commonDivisor_28 : decode cX2_commonDivisor 28 = .ok (.lrem, 1) := by decide +kernel
theorem dX2_commonDivisor_29 : decode cX2_commonDivisor 29 = .ok (.lstore 9, 2) := by decide +kernel
theorem dX2_commonDivisor_31 : decode cX2_commonDivisor 31 = .ok (.lload 6, 2) := by decide +kernel
theorem dX2_commonDivisor_33 : decode cX2_commonDivisor 33 = .ok (.lstore 4, 2) := by decide +kernel
theorem dX2_commonDivisor_35 : decode cX2_commonDivisor 35 = .ok (.lload 9, 2) := by decide +kernel
theorem dX2_commonDivisor_37 : decode cX2_commonDivisor 37 = .ok (.lstore 6, 2) := by decide +kernel
theorem dX2_commonDivisor_39 : decode cX2_commonDivisor 39 = .ok (.iinc 8 1, 3) := by decide +kernel
theorem dX2_commonDivisor_42 : decode cX2_commonDivisor 42 = .ok (.goto (-33), 3) := by decide +kernel
theorem dX2_commonDivisor_45 : decode cX2_commonDivisor 45 = .ok (.lload 4, 2) := by decide +kernel
theorem dX2_commonDivisor_47 : decode cX2_commonDivisor 47 = .ok (.lreturn, 1) := by decide +kernel
theorem dX3_init_0 : decode cX3_init 0 = .ok (.aload_n 0, 1) := by decide +kernel
theorem dX3_init_1 : decode cX3_init 1 = .ok (.invokespecial 3, 3) := by decide +kernel
theorem dX3_init_4 : decode cX3_init 4 = .ok (.aload_n 0, 1) := by decide +kernel
theorem dX3_init_5 : decode cX3_init 5 = .ok (.bipush 30, 2) := by decide +kernel
theorem dX3_init_7 : decode cX3_init 7 = .ok (.newarray .int, 2) := by decide +kernel
theorem dX3_init_9 : decode cX3_init 9 = .ok (.putfield 9, 3) := by decide +kernel
theorem dX3_init_12 : decode cX3_init 12 = .ok (.aload_n 0, 1) := by decide +kernel
theorem dX3_init_13 : decode cX3_init 13 = .ok (.bipush 30, 2) := by decide +kernel
theorem dX3_init_15 : decode cX3_init 15 = .ok (.newarray .int, 2) := by decide +kernel
theorem dX3_init_17 : decode cX3_init 17 = .ok (.putfield 15, 3) := by decide +kernel
theorem dX3_init_20 : decode cX3_init 20 = .ok (.aload_n 0, 1) := by decide +kernel
theorem dX3_init_21 : decode cX3_init 21 = .ok (.iconst 0, 1) := by decide +kernel
theorem dX3_init_22 : decode cX3_init 22 = .ok (.putfield 18, 3) := by decide +kernel
theorem dX3_init_25 : decode cX3_init 25 = .ok (.aload_n 0, 1) := by decide +kernel
theorem dX3_init_26 : decode cX3_init 26 = .ok (.iconst (-1), 1) := by decide +kernel
theorem dX3_init_27 : decode cX3_init 27 = .ok (.putfield 22, 3) := by decide +kernel
theorem dX3_init_30 : decode cX3_init 30 = .ok (.return_, 1) := by decide +kernel
theorem dX3_isEmpty_0 : decode cX3_isEmpty 0 = .ok (.aload_n 0, 1) := by decide +kernel
theorem dX3_isEmpty_1 : decode cX3_isEmpty 1 = .ok (.getfield 22, 3) := by decide +kernel
theorem dX3_isEmpty_4 : decode cX3_isEmpty 4 = .ok (.iconst (-1), 1) := by decide +kernel
theorem dX3_isEmpty_5 : decode cX3_isEmpty 5 = .ok (.if_icmp .ne 7, 3) := by decide +kernel
theorem dX3_isEmpty_8 : decode cX3_isEmpty 8 = .ok (.iconst 1, 1) := by decide +kernel
theorem dX3_isEmpty_9 : decode cX3_isEmpty 9 = .ok (.goto 4, 3) := by decide +kernel
theorem dX3_isEmpty_12 : decode cX3_isEmpty 12 = .ok (.iconst 0, 1) := by decide +kernel
theorem dX3_isEmpty_13 : decode cX3_isEmpty 13 = .ok (.ireturn, 1) := by decide +kernel
theorem dX3_fill_0 : decode cX3_fill 0 = .ok (.aload_n 0, 1) := by decide +kernel
theorem dX3_fill_1 : decode cX3_fill 1 = .ok (.iload_n 2, 1) := by decide +kernel
theorem dX3_fill_2 : decode cX3_fill 2 = .ok (.putfield 18, 3) := by decide +kernel
theorem dX3_fill_5 : decode cX3_fill 5 = .ok (.aload_n 0, 1) := by decide +kernel
theorem dX3_fill_6 : decode cX3_fill 6 = .ok (.iload_n 3, 1) := by decide +kernel
theorem dX3_fill_7 : decode cX3_fill 7 = .ok (.putfield 22, 3) := by decide +kernel
theorem dX3_fill_10 : decode cX3_fill 10 = .ok (.iconst 0, 1) := by decide +kernel
theorem dX3_fill_11 : decode cX3_fill 11 = .ok (.istore 4, 2) := by decide +kernel
theorem dX3_fill_13 : decode cX3_fill 13 = .ok (.iload 4, 2) := by decide +kernel
theorem dX3_fill_15 : decode cX3_fill 15 = .ok (.aload_n 0, 1) := by decide +kernel
theorem dX3_fill_16 : decode cX3_fill 16 = .ok (.getfield 22, 3) := by decide +kernel
theorem dX3_fill_19 : decode cX3_fill 19 = .ok (.if_icmp .ge 17, 3) := by decide +kernel
theorem dX3_fill_22 : decode cX3_fill 22 = .ok (.aload_n 0, 1) := by decide +kernel
theorem dX3_fill_23 : decode cX3_fill 23 = .ok (.getfield 15, 3) := by decide +kernel
theorem dX3_fill_26 : decode cX3_fill 26 = .ok (.iload 4, 2) := by decide +kernel
theorem dX3_fill_28 : decode cX3_fill 28 = .ok (.iconst 0, 1) := by decide +kernel
theorem dX3_fill_29 : decode cX3_fill 29 = .ok (.iastore, 1) := by decide +kernel
theorem dX3_fill_30 : decode cX3_fill 30 = .ok (.iinc 4 1, 3) := by decide +kernel
theorem dX3_fill_33 : decode cX3_fill 33 = .ok (.goto (-20), 3) := by decide +kernel
theorem dX3_fill_36 : decode cX3_fill 36 = .ok (.iconst 0, 1) := by decide +kernel
theorem dX3_fill_37 : decode cX3_fill 37 = .ok (.istore 4, 2) := by decide +kernel
theorem dX3_fill_39 : decode cX3_fill 39 = .ok (.iload 4, 2) := by decide +kernel
theorem dX3_fill_41 : decode cX3_fill 41 = .ok (.aload_n 0, 1) := by decide +kernel
theorem dX3_fill_42 : decode cX3_fill 42 = .ok (.getfield 18, 3) := by decide +kernel
theorem dX3_fill_45 : decode cX3_fill 45 = .ok (.if_icmp .ge 41, 3) := by decide +kernel
theorem dX3_fill_48 : decode cX3_fill 48 = .ok (.aload_n 0, 1) := by decide +kernel
theorem dX3_fill_49 : decode cX3_fill 49 = .ok (.getfield 9, 3) := by decide +kernel
theorem dX3_fill_52 : decode cX3_fill 52 = .ok (.iload 4, 2) := by decide +kernel
theorem dX3_fill_54 : decode cX3_fill 54 = .ok (.aload_n 1, 1) := by decide +kernel
theorem dX3_fill_55 : decode cX3_fill 55 = .ok (.iload 4, 2) := by decide +kernel
theorem dX3_fill_57 : decode cX3_fill 57 = .ok (.iaload, 1) := by decide +kernel
theorem dX3_fill_58 : decode cX3_fill 58 = .ok (.iastore, 1) := by decide +kernel
theorem dX3_fill_59 : decode cX3_fill 59 = .ok (.aload_n 1, 1) := by decide +kernel
theorem dX3_fill_60 : decode cX3_fill 60 = .ok (.iload 4, 2) := by decide +kernel
theorem dX3_fill_62 : decode cX3_fill 62 = .ok (.iaload, 1) := by decide +kernel
theorem dX3_fill_63 : decode cX3_fill 63 = .ok (.iconst (-1), 1) := by decide +kernel
theorem dX3_fill_64 : decode cX3_fill 64 = .ok (.if_icmp .eq 16, 3) := by decide +kernel
theorem dX3_fill_67 : decode cX3_fill 67 = .ok (.aload_n 0, 1) := by decide +kernel
theorem dX3_fill_68 : decode cX3_fill 68 = .ok (.getfield 15, 3) := by decide +kernel
theorem dX3_fill_71 : decode cX3_fill 71 = .ok (.aload_n 1, 1) := by decide +kernel
theorem dX3_fill_72 : decode cX3_fill 72 = .ok (.iload 4, 2) := by decide +kernel
theorem dX3_fill_74 : decode cX3_fill 74 = .ok (.iaload, 1) := by decide +kernel
theorem dX3_fill_75 : decode cX3_fill 75 = .ok (.dup2, 1) := by decide +kernel
theorem dX3_fill_76 : decode cX3_fill 76 = .ok (.iaload, 1) := by decide +kernel
theorem dX3_fill_77 : decode cX3_fill 77 = .ok (.iconst 1, 1) := by decide +kernel
theorem dX3_fill_78 : decode cX3_fill 78 = .ok (.iadd, 1) := by decide +kernel
theorem dX3_fill_79 : decode cX3_fill 79 = .ok (.iastore, 1) := by decide +kernel
theorem dX3_fill_80 : decode cX3_fill 80 = .ok (.iinc 4 1, 3) := by decide +kernel
theorem dX3_fill_83 : decode cX3_fill 83 = .ok (.goto (-44), 3) := by decide +kernel
theorem dX3_fill_86 : decode cX3_fill 86 = .ok (.return_, 1) := by decide +kernel
theorem dX3_holdsBoth_0 : decode cX3_holdsBoth 0 = .ok (.aload_n 0, 1) := by decide +kernel
theorem dX3_holdsBoth_1 : decode cX3_holdsBoth 1 = .ok (.getfield 9, 3) := by decide +kernel
theorem dX3_holdsBoth_4 : decode cX3_holdsBoth 4 = .ok (.iload_n 1, 1) := by decide +kernel
theorem dX3_holdsBoth_5 : decode cX3_holdsBoth 5 = .ok (.iaload, 1) := by decide +kernel
theorem dX3_holdsBoth_6 : decode cX3_holdsBoth 6 = .ok (.iconst (-1), 1) := by decide +kernel
theorem dX3_holdsBoth_7 : decode cX3_holdsBoth 7 = .ok (.if_icmp .eq 17, 3) := by decide +kernel
theorem dX3_holdsBoth_10 : decode cX3_holdsBoth 10 = .ok (.aload_n 0, 1) := by decide +kernel
theorem dX3_holdsBoth_11 : decode cX3_holdsBoth 11 = .ok (.getfield 9, 3) := by decide +kernel
theorem dX3_holdsBoth_14 : decode cX3_holdsBoth 14 = .ok (.iload_n 2, 1) := by decide +kernel
theorem dX3_holdsBoth_15 : decode cX3_holdsBoth 15 = .ok (.iaload, 1) := by decide +kernel
theorem dX3_holdsBoth_16 : decode cX3_holdsBoth 16 = .ok (.iconst (-1), 1) := by decide +kernel
theorem dX3_holdsBoth_17 : decode cX3_holdsBoth 17 = .ok (.if_icmp .eq 7, 3) := by decide +kernel
theorem dX3_holdsBoth_20 : decode cX3_holdsBoth 20 = .ok (.iconst 1, 1) := by decide +kernel
theorem dX3_holdsBoth_21 : decode cX3_holdsBoth 21 = .ok (.goto 4, 3) := by decide +kernel
theorem dX3_holdsBoth_24 : decode cX3_holdsBoth 24 = .ok (.iconst 0, 1) := by decide +kernel
theorem dX3_holdsBoth_25 : decode cX3_holdsBoth 25 = .ok (.ireturn, 1) := by decide +kernel
theorem dX3_total_0 : decode cX3_total 0 = .ok (.lconst 0, 1) := by decide +kernel
theorem dX3_total_1 : decode cX3_total 1 = .ok (.lstore 4, 2) := by decide +kernel
theorem dX3_total_3 : decode cX3_total 3 = .ok (.iconst 0, 1) := by decide +kernel
theorem dX3_total_4 : decode cX3_total 4 = .ok (.istore 6, 2) := by decide +kernel
theorem dX3_total_6 : decode cX3_total 6 = .ok (.iload 6, 2) := by decide +kernel
theorem dX3_total_8 : decode cX3_total 8 = .ok (.aload_n 0, 1) := by decide +kernel
theorem dX3_total_9 : decode cX3_total 9 = .ok (.getfield 18, 3) := by decide +kernel
theorem dX3_total_12 : decode cX3_total 12 = .ok (.if_icmp .ge 33, 3) := by decide +kernel
theorem dX3_total_15 : decode cX3_total 15 = .ok (.aload_n 0, 1) := by decide +kernel
theorem dX3_total_16 : decode cX3_total 16 = .ok (.getfield 9, 3) := by decide +kernel
theorem dX3_total_19 : decode cX3_total 19 = .ok (.iload 6, 2) := by decide +kernel
theorem dX3_total_21 : decode cX3_total 21 = .ok (.iaload, 1) := by decide +kernel
theorem dX3_total_22 : decode cX3_total 22 = .ok (.iload_n 2, 1) := by decide +kernel
theorem dX3_total_23 : decode cX3_total 23 = .ok (.if_icmp .ne 16, 3) := by decide +kernel
theorem dX3_total_26 : decode cX3_total 26 = .ok (.lload 4, 2) := by decide +kernel
theorem dX3_total_28 : decode cX3_total 28 = .ok (.aload_n 1, 1) := by decide +kernel
theorem dX3_total_29 : decode cX3_total 29 = .ok (.iload 6, 2) := by decide +kernel
theorem dX3_total_31 : decode cX3_total 31 = .ok (.iload_n 3, 1) := by decide +kernel
theorem dX3_total_32 : decode cX3_total 32 = .ok (.invokevirtual 25, 3) := by decide +kernel
theorem dX3_total_35 : decode cX3_total 35 = .ok (.i2l, 1) := by decide +kernel
theorem dX3_total_36 : decode cX3_total 36 = .ok (.ladd, 1) := by decide +kernel
theorem dX3_total_37 : decode cX3_total 37 = .ok (.lstore 4, 2) := by decide +kernel
theorem dX3_total_39 : decode cX3_total 39 = .ok (.iinc 6 1, 3) := by decide +kernel
theorem dX3_total_42 : decode cX3_total 42 = .ok (.goto (-36), 3) := by decide +kernel
theorem dX3_total_45 : decode cX3_total 45 = .ok (.lload 4, 2) := by decide +kernel
theorem dX3_total_47 : decode cX3_total 47 = .ok (.lreturn, 1) := by decide +kernel
theorem dX3_squaresTimesSize_0 : decode cX3_squaresTimesSize 0 = .ok (.lconst 0, 1) := by decide +kernel
theorem dX3_squaresTimesSize_1 : decode cX3_squaresTimesSize 1 = .ok (.lstore_n 3, 1) := by decide +kernel
theorem dX3_squaresTimesSize_2 : decode cX3_squaresTimesSize 2 = .ok (.iconst 0, 1) := by decide +kernel
theorem dX3_squaresTimesSize_3 : decode cX3_squaresTimesSize 3 = .ok (.istore 5, 2) := by decide +kernel
theorem dX3_squaresTimesSize_5 : decode cX3_squaresTimesSize 5 = .ok (.iload 5, 2) := by decide +kernel
theorem dX3_squaresTimesSize_7 : decode cX3_squaresTimesSize 7 = .ok (.aload_n 1, 1) := by decide +kernel
theorem dX3_squaresTimesSize_8 : decode cX3_squaresTimesSize 8 = .ok (.getfield 31, 3) := by decide +kernel
theorem dX3_squaresTimesSize_11 : decode cX3_squaresTimesSize 11 = .ok (.if_icmp .ge 44, 3) := by decide +kernel
theorem dX3_squaresTimesSize_14 : decode cX3_squaresTimesSize 14 = .ok (.aload_n 0, 1) := by decide +kernel
theorem dX3_squaresTimesSize_15 : decode cX3_squaresTimesSize 15 = .ok (.aload_n 1, 1) := by decide +kernel
theorem dX3_squaresTimesSize_16 : decode cX3_squaresTimesSize 16 = .ok (.iload_n 2, 1) := by decide +kernel
theorem dX3_squaresTimesSize_17 : decode cX3_squaresTimesSize 17 = .ok (.iload 5, 2) := by decide +kernel
theorem dX3_squaresTimesSize_19 : decode cX3_squaresTimesSize 19 = .ok (.invokevirtual 34, 3) := by decide +kernel
theorem dX3_squaresTimesSize_22 : decode cX3_squaresTimesSize 22 = .ok (.lstore 6, 2) := by decide +kernel
theorem dX3_squaresTimesSize_24 : decode cX3_squaresTimesSize 24 = .ok (.lload_n 3, 1) := by decide +kernel
theorem dX3_squaresTimesSize_25 : decode cX3_squaresTimesSize 25 = .ok (.aload_n 0, 1) := by decide +kernel
theorem dX3_squaresTimesSize_26 : decode cX3_squaresTimesSize 26 = .ok (.getfield 15, 3) := by decide +kernel
theorem dX3_squaresTimesSize_29 : decode cX3_squaresTimesSize 29 = .ok (.iload_n 2, 1) := by decide +kernel
theorem dX3_squaresTimesSize_30 : decode cX3_squaresTimesSize 30 = .ok (.iaload, 1) := by decide +kernel
theorem dX3_squaresTimesSize_31 : decode cX3_squaresTimesSize 31 = .ok (.i2l, 1) := by decide +kernel
theorem dX3_squaresTimesSize_32 : decode cX3_squaresTimesSize 32 = .ok (.aload_n 0, 1) := by decide +kernel
theorem dX3_squaresTimesSize_33 : decode cX3_squaresTimesSize 33 = .ok (.aload_n 1, 1) := by decide +kernel
theorem dX3_squaresTimesSize_34 : decode cX3_squaresTimesSize 34 = .ok (.iload_n 2, 1) := by decide +kernel
theorem dX3_squaresTimesSize_35 : decode cX3_squaresTimesSize 35 = .ok (.iload 5, 2) := by decide +kernel
theorem dX3_squaresTimesSize_37 : decode cX3_squaresTimesSize 37 = .ok (.invokevirtual 38, 3) := by decide +kernel
theorem dX3_squaresTimesSize_40 : decode cX3_squaresTimesSize 40 = .ok (.lmul, 1) := by decide +kernel
theorem dX3_squaresTimesSize_41 : decode cX3_squaresTimesSize 41 = .ok (.lload 6, 2) := by decide +kernel
theorem dX3_squaresTimesSize_43 : decode cX3_squaresTimesSize 43 = .ok (.lload 6, 2) := by decide +kernel
theorem dX3_squaresTimesSize_45 : decode cX3_squaresTimesSize 45 = .ok (.lmul, 1) := by decide +kernel
theorem dX3_squaresTimesSize_46 : decode cX3_squaresTimesSize 46 = .ok (.lsub, 1) := by decide +kernel
theorem dX3_squaresTimesSize_47 : decode cX3_squaresTimesSize 47 = .ok (.ladd, 1) := by decide +kernel
theorem dX3_squaresTimesSize_48 : decode cX3_squaresTimesSize 48 = .ok (.lstore_n 3, 1) := by decide +kernel
theorem dX3_squaresTimesSize_49 : decode cX3_squaresTimesSize 49 = .ok (.iinc 5 1, 3) := by decide +kernel
theorem dX3_squaresTimesSize_52 : decode cX3_squaresTimesSize 52 = .ok (.goto (-47), 3) := by decide +kernel
theorem dX3_squaresTimesSize_55 : decode cX3_squaresTimesSize 55 = .ok (.lload_n 3, 1) := by decide +kernel
theorem dX3_squaresTimesSize_56 : decode cX3_squaresTimesSize 56 = .ok (.lreturn, 1) := by decide +kernel
theorem dX3_distancesTo_0 : decode cX3_distancesTo 0 = .ok (.lconst 0, 1) := by decide +kernel
theorem dX3_distancesTo_1 : decode cX3_distancesTo 1 = .ok (.lstore 5, 2) := by decide +kernel
theorem dX3_distancesTo_3 : decode cX3_distancesTo 3 = .ok (.iconst 0, 1) := by decide +kernel
theorem dX3_distancesTo_4 : decode cX3_distancesTo 4 = .ok (.istore 7, 2) := by decide +kernel
theorem dX3_distancesTo_6 : decode cX3_distancesTo 6 = .ok (.iload 7, 2) := by decide +kernel
theorem dX3_distancesTo_8 : decode cX3_distancesTo 8 = .ok (.aload_n 0, 1) := by decide +kernel
theorem dX3_distancesTo_9 : decode cX3_distancesTo 9 = .ok (.getfield 18, 3) := by decide +kernel
theorem dX3_distancesTo_12 : decode cX3_distancesTo 12 = .ok (.if_icmp .ge 35, 3) := by decide +kernel
theorem dX3_distancesTo_15 : decode cX3_distancesTo 15 = .ok (.aload_n 0, 1) := by decide +kernel
theorem dX3_distancesTo_16 : decode cX3_distancesTo 16 = .ok (.getfield 9, 3) := by decide +kernel
theorem dX3_distancesTo_19 : decode cX3_distancesTo 19 = .ok (.iload 7, 2) := by decide +kernel
theorem dX3_distancesTo_21 : decode cX3_distancesTo 21 = .ok (.iaload, 1) := by decide +kernel
theorem dX3_distancesTo_22 : decode cX3_distancesTo 22 = .ok (.iload 4, 2) := by decide +kernel
theorem dX3_distancesTo_24 : decode cX3_distancesTo 24 = .ok (.if_icmp .ne 17, 3) := by decide +kernel
theorem dX3_distancesTo_27 : decode cX3_distancesTo 27 = .ok (.lload 5, 2) := by decide +kernel
theorem dX3_distancesTo_29 : decode cX3_distancesTo 29 = .ok (.aload_n 1, 1) := by decide +kernel
theorem dX3_distancesTo_30 : decode cX3_distancesTo 30 = .ok (.iload_n 2, 1) := by decide +kernel
theorem dX3_distancesTo_31 : decode cX3_distancesTo 31 = .ok (.iload_n 3, 1) := by decide +kernel
theorem dX3_distancesTo_32 : decode cX3_distancesTo 32 = .ok (.iload 7, 2) := by decide +kernel
theorem dX3_distancesTo_34 : decode cX3_distancesTo 34 = .ok (.invokevirtual 41, 3) := by decide +kernel
theorem dX3_distancesTo_37 : decode cX3_distancesTo 37 = .ok (.i2l, 1) := by decide +kernel
theorem dX3_distancesTo_38 : decode cX3_distancesTo 38 = .ok (.ladd, 1) := by decide +kernel
theorem dX3_distancesTo_39 : decode cX3_distancesTo 39 = .ok (.lstore 5, 2) := by decide +kernel
theorem dX3_distancesTo_41 : decode cX3_distancesTo 41 = .ok (.iinc 7 1, 3) := by decide +kernel
theorem dX3_distancesTo_44 : decode cX3_distancesTo 44 = .ok (.goto (-38), 3) := by decide +kernel
theorem dX3_distancesTo_47 : decode cX3_distancesTo 47 = .ok (.lload 5, 2) := by decide +kernel
theorem dX3_distancesTo_49 : decode cX3_distancesTo 49 = .ok (.lreturn, 1) := by decide +kernel
theorem dX3_totalOfSquares_0 : decode cX3_totalOfSquares 0 = .ok (.lconst 0, 1) := by decide +kernel
theorem dX3_totalOfSquares_1 : decode cX3_totalOfSquares 1 = .ok (.lstore 4, 2) := by decide +kernel
theorem dX3_totalOfSquares_3 : decode cX3_totalOfSquares 3 = .ok (.iconst 0, 1) := by decide +kernel
theorem dX3_totalOfSquares_4 : decode cX3_totalOfSquares 4 = .ok (.istore 6, 2) := by decide +kernel
theorem dX3_totalOfSquares_6 : decode cX3_totalOfSquares 6 = .ok (.iload 6, 2) := by decide +kernel
theorem dX3_totalOfSquares_8 : decode cX3_totalOfSquares 8 = .ok (.aload_n 0, 1) := by decide +kernel
theorem dX3_totalOfSquares_9 : decode cX3_totalOfSquares 9 = .ok (.getfield 18, 3) := by decide +kernel
theorem dX3_totalOfSquares_12 : decode cX3_totalOfSquares 12 = .ok (.if_icmp .ge 40, 3) := by decide +kernel
theorem dX3_totalOfSquares_15 : decode cX3_totalOfSquares 15 = .ok (.aload_n 0, 1) := by decide +kernel
theorem dX3_totalOfSquares_16 : decode cX3_totalOfSquares 16 = .ok (.getfield 9, 3) := by decide +kernel
theorem dX3_totalOfSquares_19 : decode cX3_totalOfSquares 19 = .ok (.iload 6, 2) := by decide +kernel
theorem dX3_totalOfSquares_21 : decode cX3_totalOfSquares 21 = .ok (.iaload, 1) := by decide +kernel
theorem dX3_totalOfSquares_22 : decode cX3_totalOfSquares 22 = .ok (.iload_n 2, 1) := by decide +kernel
theorem dX3_totalOfSquares_23 : decode cX3_totalOfSquares 23 = .ok (.if_icmp .ne 23, 3) := by decide +kernel
theorem dX3_totalOfSquares_26 : decode cX3_totalOfSquares 26 = .ok (.aload_n 1, 1) := by decide +kernel
theorem dX3_totalOfSquares_27 : decode cX3_totalOfSquares 27 = .ok (.iload 6, 2) := by decide +kernel
theorem dX3_totalOfSquares_29 : decode cX3_totalOfSquares 29 = .ok (.iload_n 3, 1) := by decide +kernel
theorem dX3_totalOfSquares_30 : decode cX3_totalOfSquares 30 = .ok (.invokevirtual 25, 3) := by decide +kernel
theorem dX3_totalOfSquares_33 : decode cX3_totalOfSquares 33 = .ok (.i2l, 1) := by decide +kernel
theorem dX3_totalOfSquares_34 : decode cX3_totalOfSquares 34 = .ok (.lstore 7, 2) := by decide +kernel
theorem dX3_totalOfSquares_36 : decode cX3_totalOfSquares 36 = .ok (.lload 4, 2) := by decide +kernel
theorem dX3_totalOfSquares_38 : decode cX3_totalOfSquares 38 = .ok (.lload 7, 2) := by decide +kernel
theorem dX3_totalOfSquares_40 : decode cX3_totalOfSquares 40 = .ok (.lload 7, 2) := by decide +kernel
theorem dX3_totalOfSquares_42 : decode cX3_totalOfSquares 42 = .ok (.lmul, 1) := by decide +kernel
theorem dX3_totalOfSquares_43 : decode cX3_totalOfSquares 43 = .ok (.ladd, 1) := by decide +kernel
theorem dX3_totalOfSquares_44 : decode cX3_totalOfSquares 44 = .ok (.lstore 4, 2) := by decide +kernel
theorem dX3_totalOfSquares_46 : decode cX3_totalOfSquares 46 = .ok (.iinc 6 1, 3) := by decide +kernel
theorem dX3_totalOfSquares_49 : decode cX3_totalOfSquares 49 = .ok (.goto (-43), 3) := by decide +kernel
theorem dX3_totalOfSquares_52 : decode cX3_totalOfSquares 52 = .ok (.lload 4, 2) := by decide +kernel
theorem dX3_totalOfSquares_54 : decode cX3_totalOfSquares 54 = .ok (.lreturn, 1) := by decide +kernel
theorem dX4_init_0 : decode cX4_init 0 = .ok (.aload_n 0, 1) := by decide +kernel
theorem dX4_init_1 : decode cX4_init 1 = .ok (.invokespecial 3, 3) := by decide +kernel
theorem dX4_init_4 : decode cX4_init 4 = .ok (.aload_n 0, 1) := by decide +kernel
theorem dX4_init_5 : decode cX4_init 5 = .ok (.bipush 30, 2) := by decide +kernel
theorem dX4_init_7 : decode cX4_init 7 = .ok (.newarray .int, 2) := by decide +kernel
theorem dX4_init_9 : decode cX4_init 9 = .ok (.putfield 9, 3) := by decide +kernel
theorem dX4_init_12 : decode cX4_init 12 = .ok (.aload_n 0, 1) := by decide +kernel
theorem dX4_init_13 : decode cX4_init 13 = .ok (.bipush 30, 2) := by decide +kernel
theorem dX4_init_15 : decode cX4_init 15 = .ok (.newarray .int, 2) := by decide +kernel
theorem dX4_init_17 : decode cX4_init 17 = .ok (.putfield 15, 3) := by decide +kernel
theorem dX4_init_20 : decode cX4_init 20 = .ok (.aload_n 0, 1) := by decide +kernel
theorem dX4_init_21 : decode cX4_init 21 = .ok (.bipush 30, 2) := by decide +kernel
theorem dX4_init_23 : decode cX4_init 23 = .ok (.newarray .int, 2) := by decide +kernel
theorem dX4_init_25 : decode cX4_init 25 = .ok (.putfield 18, 3) := by decide +kernel
theorem dX4_init_28 : decode cX4_init 28 = .ok (.aload_n 0, 1) := by decide +kernel
theorem dX4_init_29 : decode cX4_init 29 = .ok (.bipush 30, 2) := by decide +kernel
theorem dX4_init_31 : decode cX4_init 31 = .ok (.newarray .long, 2) := by decide +kernel
theorem dX4_init_33 : decode cX4_init 33 = .ok (.putfield 21, 3) := by decide +kernel
theorem dX4_init_36 : decode cX4_init 36 = .ok (.aload_n 0, 1) := by decide +kernel
theorem dX4_init_37 : decode cX4_init 37 = .ok (.bipush 30, 2) := by decide +kernel
theorem dX4_init_39 : decode cX4_init 39 = .ok (.newarray .long, 2) := by decide +kernel
theorem dX4_init_41 : decode cX4_init 41 = .ok (.putfield 25, 3) := by decide +kernel
theorem dX4_init_44 : decode cX4_init 44 = .ok (.aload_n 0, 1) := by decide +kernel
theorem dX4_init_45 : decode cX4_init 45 = .ok (.bipush 30, 2) := by decide +kernel
theorem dX4_init_47 : decode cX4_init 47 = .ok (.newarray .int, 2) := by decide +kernel
theorem dX4_init_49 : decode cX4_init 49 = .ok (.putfield 28, 3) := by decide +kernel
theorem dX4_init_52 : decode cX4_init 52 = .ok (.aload_n 0, 1) := by decide +kernel
theorem dX4_init_53 : decode cX4_init 53 = .ok (.bipush 30, 2) := by decide +kernel
theorem dX4_init_55 : decode cX4_init 55 = .ok (.newarray .int, 2) := by decide +kernel
theorem dX4_init_57 : decode cX4_init 57 = .ok (.putfield 31, 3) := by decide +kernel
theorem dX4_init_60 : decode cX4_init 60 = .ok (.aload_n 0, 1) := by decide +kernel
theorem dX4_init_61 : decode cX4_init 61 = .ok (.bipush 120, 2) := by decide +kernel
theorem dX4_init_63 : decode cX4_init 63 = .ok (.newarray .long, 2) := by decide +kernel
theorem dX4_init_65 : decode cX4_init 65 = .ok (.putfield 34, 3) := by decide +kernel
theorem dX4_init_68 : decode cX4_init 68 = .ok (.aload_n 0, 1) := by decide +kernel
theorem dX4_init_69 : decode cX4_init 69 = .ok (.sipush 900, 3) := by decide +kernel
theorem dX4_init_72 : decode cX4_init 72 = .ok (.newarray .long, 2) := by decide +kernel
theorem dX4_init_74 : decode cX4_init 74 = .ok (.putfield 37, 3) := by decide +kernel
theorem dX4_init_77 : decode cX4_init 77 = .ok (.aload_n 0, 1) := by decide +kernel
theorem dX4_init_78 : decode cX4_init 78 = .ok (.new 40, 3) := by decide +kernel
theorem dX4_init_81 : decode cX4_init 81 = .ok (.dup, 1) := by decide +kernel
theorem dX4_init_82 : decode cX4_init 82 = .ok (.invokespecial 42, 3) := by decide +kernel
theorem dX4_init_85 : decode cX4_init 85 = .ok (.putfield 43, 3) := by decide +kernel
theorem dX4_init_88 : decode cX4_init 88 = .ok (.aload_n 0, 1) := by decide +kernel
theorem dX4_init_89 : decode cX4_init 89 = .ok (.iconst 0, 1) := by decide +kernel
theorem dX4_init_90 : decode cX4_init 90 = .ok (.putfield 47, 3) := by decide +kernel
theorem dX4_init_93 : decode cX4_init 93 = .ok (.aload_n 0, 1) := by decide +kernel
theorem dX4_init_94 : decode cX4_init 94 = .ok (.iconst (-1), 1) := by decide +kernel
theorem dX4_init_95 : decode cX4_init 95 = .ok (.putfield 51, 3) := by decide +kernel
theorem dX4_init_98 : decode cX4_init 98 = .ok (.return_, 1) := by decide +kernel
theorem dX4_build_0 : decode cX4_build 0 = .ok (.aload_n 0, 1) := by decide +kernel
theorem dX4_build_1 : decode cX4_build 1 = .ok (.iload_n 2, 1) := by decide +kernel
theorem dX4_build_2 : decode cX4_build 2 = .ok (.putfield 47, 3) := by decide +kernel
theorem dX4_build_5 : decode cX4_build 5 = .ok (.aload_n 0, 1) := by decide +kernel
theorem dX4_build_6 : decode cX4_build 6 = .ok (.aload_n 1, 1) := by decide +kernel
theorem dX4_build_7 : decode cX4_build 7 = .ok (.iload_n 3, 1) := by decide +kernel
theorem dX4_build_8 : decode cX4_build 8 = .ok (.invokevirtual 54, 3) := by decide +kernel
theorem dX4_build_11 : decode cX4_build 11 = .ok (.aload_n 0, 1) := by decide +kernel
theorem dX4_build_12 : decode cX4_build 12 = .ok (.iconst 0, 1) := by decide +kernel
theorem dX4_build_13 : decode cX4_build 13 = .ok (.putfield 51, 3) := by decide +kernel
theorem dX4_build_16 : decode cX4_build 16 = .ok (.iconst 1, 1) := by decide +kernel
theorem dX4_build_17 : decode cX4_build 17 = .ok (.istore 4, 2) := by decide +kernel
theorem dX4_build_19 : decode cX4_build 19 = .ok (.iload 4, 2) := by decide +kernel
theorem dX4_build_21 : decode cX4_build 21 = .ok (.aload_n 1, 1) := by decide +kernel
theorem dX4_build_22 : decode cX4_build 22 = .ok (.getfield 58, 3) := by decide +kernel
theorem dX4_build_25 : decode cX4_build 25 = .ok (.if_icmp .ge 70, 3) := by decide +kernel
theorem dX4_build_28 : decode cX4_build 28 = .ok (.aload_n 0, 1) := by decide +kernel
theorem dX4_build_29 : decode cX4_build 29 = .ok (.aload_n 1, 1) := by decide +kernel
theorem dX4_build_30 : decode cX4_build 30 = .ok (.invokevirtual 63, 3) := by decide +kernel
theorem dX4_build_33 : decode cX4_build 33 = .ok (.aload_n 0, 1) := by decide +kernel
theorem dX4_build_34 : decode cX4_build 34 = .ok (.aload_n 1, 1) := by decide +kernel
theorem dX4_build_35 : decode cX4_build 35 = .ok (.aload_n 0, 1) := by decide +kernel
theorem dX4_build_36 : decode cX4_build 36 = .ok (.getfield 9, 3) := by decide +kernel
theorem dX4_build_39 : decode cX4_build 39 = .ok (.aload_n 0, 1) := by decide +kernel
theorem dX4_build_40 : decode cX4_build 40 = .ok (.getfield 51, 3) := by decide +kernel
theorem dX4_build_43 : decode cX4_build 43 = .ok (.iaload, 1) := by decide +kernel
theorem dX4_build_44 : decode cX4_build 44 = .ok (.aload_n 0, 1) := by decide +kernel
theorem dX4_build_45 : decode cX4_build 45 = .ok (.getfield 15, 3) := by decide +kernel
theorem dX4_build_48 : decode cX4_build 48 = .ok (.aload_n 0, 1) := by decide +kernel
theorem dX4_build_49 : decode cX4_build 49 = .ok (.getfield 51, 3) := by decide +kernel
theorem dX4_build_52 : decode cX4_build 52 = .ok (.iaload, 1) := by decide +kernel
theorem dX4_build_53 : decode cX4_build 53 = .ok (.invokevirtual 67, 3) := by decide +kernel
theorem dX4_build_56 : decode cX4_build 56 = .ok (.aload_n 0, 1) := by decide +kernel
theorem dX4_build_57 : decode cX4_build 57 = .ok (.getfield 18, 3) := by decide +kernel
theorem dX4_build_60 : decode cX4_build 60 = .ok (.aload_n 0, 1) := by decide +kernel
theorem dX4_build_61 : decode cX4_build 61 = .ok (.getfield 51, 3) := by decide +kernel
theorem dX4_build_64 : decode cX4_build 64 = .ok (.aload_n 0, 1) := by decide +kernel
theorem dX4_build_65 : decode cX4_build 65 = .ok (.getfield 31, 3) := by decide +kernel
theorem dX4_build_68 : decode cX4_build 68 = .ok (.aload_n 0, 1) := by decide +kernel
theorem dX4_build_69 : decode cX4_build 69 = .ok (.getfield 9, 3) := by decide +kernel
theorem dX4_build_72 : decode cX4_build 72 = .ok (.aload_n 0, 1) := by decide +kernel
theorem dX4_build_73 : decode cX4_build 73 = .ok (.getfield 51, 3) := by decide +kernel
theorem dX4_build_76 : decode cX4_build 76 = .ok (.iaload, 1) := by decide +kernel
theorem dX4_build_77 : decode cX4_build 77 = .ok (.iaload, 1) := by decide +kernel
theorem dX4_build_78 : decode cX4_build 78 = .ok (.iastore, 1) := by decide +kernel
theorem dX4_build_79 : decode cX4_build 79 = .ok (.aload_n 0, 1) := by decide +kernel
theorem dX4_build_80 : decode cX4_build 80 = .ok (.dup, 1) := by decide +kernel
theorem dX4_build_81 : decode cX4_build 81 = .ok (.getfield 51, 3) := by decide +kernel
theorem dX4_build_84 : decode cX4_build 84 = .ok (.iconst 1, 1) := by decide +kernel
theorem dX4_build_85 : decode cX4_build 85 = .ok (.iadd, 1) := by decide +kernel
theorem dX4_build_86 : decode cX4_build 86 = .ok (.putfield 51, 3) := by decide +kernel
theorem dX4_build_89 : decode cX4_build 89 = .ok (.iinc 4 1, 3) := by decide +kernel
theorem dX4_build_92 : decode cX4_build 92 = .ok (.goto (-73), 3) := by decide +kernel
theorem dX4_build_95 : decode cX4_build 95 = .ok (.aload_n 0, 1) := by decide +kernel
theorem dX4_build_96 : decode cX4_build 96 = .ok (.getfield 51, 3) := by decide +kernel
theorem dX4_build_99 : decode cX4_build 99 = .ok (.ireturn, 1) := by decide +kernel
theorem dX4_split_0 : decode cX4_split 0 = .ok (.iconst 0, 1) := by decide +kernel
theorem dX4_split_1 : decode cX4_split 1 = .ok (.istore_n 3, 1) := by decide +kernel
theorem dX4_split_2 : decode cX4_split 2 = .ok (.iload_n 3, 1) := by decide +kernel
theorem dX4_split_3 : decode cX4_split 3 = .ok (.iload_n 1, 1) := by decide +kernel
theorem dX4_split_4 : decode cX4_split 4 = .ok (.if_icmp .ge 16, 3) := by decide +kernel
theorem dX4_split_7 : decode cX4_split 7 = .ok (.aload_n 0, 1) := by decide +kernel
theorem dX4_split_8 : decode cX4_split 8 = .ok (.getfield 28, 3) := by decide +kernel
theorem dX4_split_11 : decode cX4_split 11 = .ok (.iload_n 3, 1) := by decide +kernel
theorem dX4_split_12 : decode cX4_split 12 = .ok (.iload_n 3, 1) := by decide +kernel
theorem dX4_split_13 : decode cX4_split 13 = .ok (.iastore, 1) := by decide +kernel
theorem dX4_split_14 : decode cX4_split 14 = .ok (.iinc 3 1, 3) := by decide +kernel
theorem dX4_split_17 : decode cX4_split 17 = .ok (.goto (-15), 3) := by decide +kernel
theorem dX4_split_20 : decode cX4_split 20 = .ok (.iconst 0, 1) := by decide +kernel
theorem dX4_split_21 : decode cX4_split 21 = .ok (.istore_n 3, 1) := by decide +kernel
theorem dX4_split_22 : decode cX4_split 22 = .ok (.iload_n 3, 1) := by decide +kernel
theorem dX4_split_23 : decode cX4_split 23 = .ok (.iload_n 1, 1) := by decide +kernel
theorem dX4_split_24 : decode cX4_split 24 = .ok (.iload_n 2, 1) := by decide +kernel
theorem dX4_split_25 : decode cX4_split 25 = .ok (.isub, 1) := by decide +kernel
theorem dX4_split_26 : decode cX4_split 26 = .ok (.if_icmp .ge 61, 3) := by decide +kernel
theorem dX4_split_29 : decode cX4_split 29 = .ok (.iload_n 3, 1) := by decide +kernel
theorem dX4_split_30 : decode cX4_split 30 = .ok (.aload_n 0, 1) := by decide +kernel
theorem dX4_split_31 : decode cX4_split 31 = .ok (.getfield 51, 3) := by decide +kernel
theorem dX4_split_34 : decode cX4_split 34 = .ok (.if_icmp .ge 53, 3) := by decide +kernel
theorem dX4_split_37 : decode cX4_split 37 = .ok (.iconst 0, 1) := by decide +kernel
theorem dX4_split_38 : decode cX4_split 38 = .ok (.istore 4, 2) := by decide +kernel
theorem dX4_split_40 : decode cX4_split 40 = .ok (.iload 4, 2) := by decide +kernel
theorem dX4_split_42 : decode cX4_split 42 = .ok (.iload_n 1, 1) := by decide +kernel
theorem dX4_split_43 : decode cX4_split 43 = .ok (.if_icmp .ge 38, 3) := by decide +kernel
theorem dX4_split_46 : decode cX4_split 46 = .ok (.aload_n 0, 1) := by decide +kernel
theorem dX4_split_47 : decode cX4_split 47 = .ok (.getfield 28, 3) := by decide +kernel
theorem dX4_split_50 : decode cX4_split 50 = .ok (.iload 4, 2) := by decide +kernel
theorem dX4_split_52 : decode cX4_split 52 = .ok (.iaload, 1) := by decide +kernel
theorem dX4_split_53 : decode cX4_split 53 = .ok (.aload_n 0, 1) := by decide +kernel
theorem dX4_split_54 : decode cX4_split 54 = .ok (.getfield 15, 3) := by decide +kernel
theorem dX4_split_57 : decode cX4_split 57 = .ok (.iload_n 3, 1) := by decide +kernel
theorem dX4_split_58 : decode cX4_split 58 = .ok (.iaload, 1) := by decide +kernel
theorem dX4_split_59 : decode cX4_split 59 = .ok (.if_icmp .ne 16, 3) := by decide +kernel
theorem dX4_split_62 : decode cX4_split 62 = .ok (.aload_n 0, 1) := by decide +kernel
theorem dX4_split_63 : decode cX4_split 63 = .ok (.getfield 28, 3) := by decide +kernel
theorem dX4_split_66 : decode cX4_split 66 = .ok (.iload 4, 2) := by decide +kernel
theorem dX4_split_68 : decode cX4_split 68 = .ok (.aload_n 0, 1) := by decide +kernel
theorem dX4_split_69 : decode cX4_split 69 = .ok (.getfield 9, 3) := by decide +kernel
theorem dX4_split_72 : decode cX4_split 72 = .ok (.iload_n 3, 1) := by decide +kernel
theorem dX4_split_73 : decode cX4_split 73 = .ok (.iaload, 1) := by decide +kernel
theorem dX4_split_74 : decode cX4_split 74 = .ok (.iastore, 1) := by decide +kernel
theorem dX4_split_75 : decode cX4_split 75 = .ok (.iinc 4 1, 3) := by decide +kernel
theorem dX4_split_78 : decode cX4_split 78 = .ok (.goto (-38), 3) := by decide +kernel
theorem dX4_split_81 : decode cX4_split 81 = .ok (.iinc 3 1, 3) := by decide +kernel
theorem dX4_split_84 : decode cX4_split 84 = .ok (.goto (-62), 3) := by decide +kernel
theorem dX4_split_87 : decode cX4_split 87 = .ok (.aload_n 0, 1) := by decide +kernel
theorem dX4_split_88 : decode cX4_split 88 = .ok (.iload_n 1, 1) := by decide +kernel
theorem dX4_split_89 : decode cX4_split 89 = .ok (.invokevirtual 71, 3) := by decide +kernel
theorem dX4_split_92 : decode cX4_split 92 = .ok (.return_, 1) := by decide +kernel
theorem dX4_numberByLeastRows_0 : decode cX4_numberByLeastRows 0 = .ok (.iconst 0, 1) := by decide +kernel
theorem dX4_numberByLeastRows_1 : decode cX4_numberByLeastRows 1 = .ok (.istore_n 2, 1) := by decide +kernel
theorem dX4_numberByLeastRows_2 : decode cX4_numberByLeastRows 2 = .ok (.iconst 0, 1) := by decide +kernel
theorem dX4_numberByLeastRows_3 : decode cX4_numberByLeastRows 3 = .ok (.istore_n 3, 1) := by decide +kernel
theorem dX4_numberByLeastRows_4 : decode cX4_numberByLeastRows 4 = .ok (.iload_n 3, 1) := by decide +kernel
theorem dX4_numberByLeastRows_5 : decode cX4_numberByLeastRows 5 = .ok (.iload_n 1, 1) := by decide +kernel
theorem dX4_numberByLeastRows_6 : decode cX4_numberByLeastRows 6 = .ok (.if_icmp .ge 49, 3) := by decide +kernel
theorem dX4_numberByLeastRows_9 : decode cX4_numberByLeastRows 9 = .ok (.aload_n 0, 1) := by decide +kernel
theorem dX4_numberByLeastRows_10 : decode cX4_numberByLeastRows 10 = .ok (.getfield 28, 3) := by decide +kernel
theorem dX4_numberByLeastRows_13 : decode cX4_numberByLeastRows 13 = .ok (.iload_n 3, 1) := by decide +kernel
theorem dX4_numberByLeastRows_14 : decode cX4_numberByLeastRows 14 = .ok (.iaload, 1) := by decide +kernel
theorem dX4_numberByLeastRows_15 : decode cX4_numberByLeastRows 15 = .ok (.iload_n 3, 1) := by decide +kernel
theorem dX4_numberByLeastRows_16 : decode cX4_numberByLeastRows 16 = .ok (.if_icmp .ne 16, 3) := by decide +kernel
theorem dX4_numberByLeastRows_19 : decode cX4_numberByLeastRows 19 = .ok (.aload_n 0, 1) := by decide +kernel
theorem dX4_numberByLeastRows_20 : decode cX4_numberByLeastRows 20 = .ok (.getfield 28, 3) := by decide +kernel
theorem dX4_numberByLeastRows_23 : decode cX4_numberByLeastRows 23 = .ok (.iload_n 3, 1) := by decide +kernel
theorem dX4_numberByLeastRows_24 : decode cX4_numberByLeastRows 24 = .ok (.iload_n 2, 1) := by decide +kernel
theorem dX4_numberByLeastRows_25 : decode cX4_numberByLeastRows 25 = .ok (.iastore, 1) := by decide +kernel
theorem dX4_numberByLeastRows_26 : decode cX4_numberByLeastRows 26 = .ok (.iinc 2 1, 3) := by decide +kernel
theorem dX4_numberByLeastRows_29 : decode cX4_numberByLeastRows 29 = .ok (.goto 20, 3) := by decide +kernel
theorem dX4_numberByLeastRows_32 : decode cX4_numberByLeastRows 32 = .ok (.aload_n 0, 1) := by decide +kernel
theorem dX4_numberByLeastRows_33 : decode cX4_numberByLeastRows 33 = .ok (.getfield 28, 3) := by decide +kernel
theorem dX4_numberByLeastRows_36 : decode cX4_numberByLeastRows 36 = .ok (.iload_n 3, 1) := by decide +kernel
theorem dX4_numberByLeastRows_37 : decode cX4_numberByLeastRows 37 = .ok (.aload_n 0, 1) := by decide +kernel
theorem dX4_numberByLeastRows_38 : decode cX4_numberByLeastRows 38 = .ok (.getfield 28, 3) := by decide +kernel
theorem dX4_numberByLeastRows_41 : decode cX4_numberByLeastRows 41 = .ok (.aload_n 0, 1) := by decide +kernel
theorem dX4_numberByLeastRows_42 : decode cX4_numberByLeastRows 42 = .ok (.getfield 28, 3) := by decide +kernel
theorem dX4_numberByLeastRows_45 : decode cX4_numberByLeastRows 45 = .ok (.iload_n 3, 1) := by decide +kernel
theorem dX4_numberByLeastRows_46 : decode cX4_numberByLeastRows 46 = .ok (.iaload, 1) := by decide +kernel
theorem dX4_numberByLeastRows_47 : decode cX4_numberByLeastRows 47 = .ok (.iaload, 1) := by decide +kernel
theorem dX4_numberByLeastRows_48 : decode cX4_numberByLeastRows 48 = .ok (.iastore, 1) := by decide +kernel
theorem dX4_numberByLeastRows_49 : decode cX4_numberByLeastRows 49 = .ok (.iinc 3 1, 3) := by decide +kernel
theorem dX4_numberByLeastRows_52 : decode cX4_numberByLeastRows 52 = .ok (.goto (-48), 3) := by decide +kernel
theorem dX4_numberByLeastRows_55 : decode cX4_numberByLeastRows 55 = .ok (.return_, 1) := by decide +kernel
theorem dX4_placeRows_0 : decode cX4_placeRows 0 = .ok (.iconst 0, 1) := by decide +kernel
theorem dX4_placeRows_1 : decode cX4_placeRows 1 = .ok (.istore_n 3, 1) := by decide +kernel
theorem dX4_placeRows_2 : decode cX4_placeRows 2 = .ok (.iload_n 3, 1) := by decide +kernel
theorem dX4_placeRows_3 : decode cX4_placeRows 3 = .ok (.aload_n 1, 1) := by decide +kernel
theorem dX4_placeRows_4 : decode cX4_placeRows 4 = .ok (.getfield 58, 3) := by decide +kernel
theorem dX4_placeRows_7 : decode cX4_placeRows 7 = .ok (.if_icmp .ge 92, 3) := by decide +kernel
theorem dX4_placeRows_10 : decode cX4_placeRows 10 = .ok (.aload_n 0, 1) := by decide +kernel
theorem dX4_placeRows_11 : decode cX4_placeRows 11 = .ok (.getfield 31, 3) := by decide +kernel
theorem dX4_placeRows_14 : decode cX4_placeRows 14 = .ok (.iload_n 3, 1) := by decide +kernel
theorem dX4_placeRows_15 : decode cX4_placeRows 15 = .ok (.iconst 1, 1) := by decide +kernel
theorem dX4_placeRows_16 : decode cX4_placeRows 16 = .ok (.iastore, 1) := by decide +kernel
theorem dX4_placeRows_17 : decode cX4_placeRows 17 = .ok (.iconst 0, 1) := by decide +kernel
theorem dX4_placeRows_18 : decode cX4_placeRows 18 = .ok (.istore 4, 2) := by decide +kernel
theorem dX4_placeRows_20 : decode cX4_placeRows 20 = .ok (.iload 4, 2) := by decide +kernel
theorem dX4_placeRows_22 : decode cX4_placeRows 22 = .ok (.aload_n 1, 1) := by decide +kernel
theorem dX4_placeRows_23 : decode cX4_placeRows 23 = .ok (.getfield 75, 3) := by decide +kernel
theorem dX4_placeRows_26 : decode cX4_placeRows 26 = .ok (.if_icmp .ge 28, 3) := by decide +kernel
theorem dX4_placeRows_29 : decode cX4_placeRows 29 = .ok (.aload_n 0, 1) := by decide +kernel
theorem dX4_placeRows_30 : decode cX4_placeRows 30 = .ok (.getfield 34, 3) := by decide +kernel
theorem dX4_placeRows_33 : decode cX4_placeRows 33 = .ok (.iload_n 3, 1) := by decide +kernel
theorem dX4_placeRows_34 : decode cX4_placeRows 34 = .ok (.iconst 4, 1) := by decide +kernel
theorem dX4_placeRows_35 : decode cX4_placeRows 35 = .ok (.imul, 1) := by decide +kernel
theorem dX4_placeRows_36 : decode cX4_placeRows 36 = .ok (.iload 4, 2) := by decide +kernel
theorem dX4_placeRows_38 : decode cX4_placeRows 38 = .ok (.iadd, 1) := by decide +kernel
theorem dX4_placeRows_39 : decode cX4_placeRows 39 = .ok (.aload_n 1, 1) := by decide +kernel
theorem dX4_placeRows_40 : decode cX4_placeRows 40 = .ok (.iload_n 3, 1) := by decide +kernel
theorem dX4_placeRows_41 : decode cX4_placeRows 41 = .ok (.iload 4, 2) := by decide +kernel
theorem dX4_placeRows_43 : decode cX4_placeRows 43 = .ok (.invokevirtual 78, 3) := by decide +kernel
theorem dX4_placeRows_46 : decode cX4_placeRows 46 = .ok (.i2l, 1) := by decide +kernel
theorem dX4_placeRows_47 : decode cX4_placeRows 47 = .ok (.lastore, 1) := by decide +kernel
theorem dX4_placeRows_48 : decode cX4_placeRows 48 = .ok (.iinc 4 1, 3) := by decide +kernel
theorem dX4_placeRows_51 : decode cX4_placeRows 51 = .ok (.goto (-31), 3) := by decide +kernel
theorem dX4_placeRows_54 : decode cX4_placeRows 54 = .ok (.iconst 0, 1) := by decide +kernel
theorem dX4_placeRows_55 : decode cX4_placeRows 55 = .ok (.istore 4, 2) := by decide +kernel
theorem dX4_placeRows_57 : decode cX4_placeRows 57 = .ok (.iload 4, 2) := by decide +kernel
theorem dX4_placeRows_59 : decode cX4_placeRows 59 = .ok (.aload_n 1, 1) := by decide +kernel
theorem dX4_placeRows_60 : decode cX4_placeRows 60 = .ok (.getfield 58, 3) := by decide +kernel
theorem dX4_placeRows_63 : decode cX4_placeRows 63 = .ok (.if_icmp .ge 30, 3) := by decide +kernel
theorem dX4_placeRows_66 : decode cX4_placeRows 66 = .ok (.aload_n 0, 1) := by decide +kernel
theorem dX4_placeRows_67 : decode cX4_placeRows 67 = .ok (.getfield 37, 3) := by decide +kernel
theorem dX4_placeRows_70 : decode cX4_placeRows 70 = .ok (.iload_n 3, 1) := by decide +kernel
theorem dX4_placeRows_71 : decode cX4_placeRows 71 = .ok (.bipush 30, 2) := by decide +kernel
theorem dX4_placeRows_73 : decode cX4_placeRows 73 = .ok (.imul, 1) := by decide +kernel
theorem dX4_placeRows_74 : decode cX4_placeRows 74 = .ok (.iload 4, 2) := by decide +kernel
theorem dX4_placeRows_76 : decode cX4_placeRows 76 = .ok (.iadd, 1) := by decide +kernel
theorem dX4_placeRows_77 : decode cX4_placeRows 77 = .ok (.aload_n 1, 1) := by decide +kernel
theorem dX4_placeRows_78 : decode cX4_placeRows 78 = .ok (.iload_n 2, 1) := by decide +kernel
theorem dX4_placeRows_79 : decode cX4_placeRows 79 = .ok (.iload_n 3, 1) := by decide +kernel
theorem dX4_placeRows_80 : decode cX4_placeRows 80 = .ok (.iload 4, 2) := by decide +kernel
theorem dX4_placeRows_82 : decode cX4_placeRows 82 = .ok (.invokevirtual 82, 3) := by decide +kernel
theorem dX4_placeRows_85 : decode cX4_placeRows 85 = .ok (.i2l, 1) := by decide +kernel
theorem dX4_placeRows_86 : decode cX4_placeRows 86 = .ok (.lastore, 1) := by decide +kernel
theorem dX4_placeRows_87 : decode cX4_placeRows 87 = .ok (.iinc 4 1, 3) := by decide +kernel
theorem dX4_placeRows_90 : decode cX4_placeRows 90 = .ok (.goto (-33), 3) := by decide +kernel
theorem dX4_placeRows_93 : decode cX4_placeRows 93 = .ok (.iinc 3 1, 3) := by decide +kernel
theorem dX4_placeRows_96 : decode cX4_placeRows 96 = .ok (.goto (-94), 3) := by decide +kernel
theorem dX4_placeRows_99 : decode cX4_placeRows 99 = .ok (.return_, 1) := by decide +kernel
theorem dX4_findNearest_0 : decode cX4_findNearest 0 = .ok (.iconst 0, 1) := by decide +kernel
theorem dX4_findNearest_1 : decode cX4_findNearest 1 = .ok (.istore_n 2, 1) := by decide +kernel
theorem dX4_findNearest_2 : decode cX4_findNearest 2 = .ok (.lconst 0, 1) := by decide +kernel
theorem dX4_findNearest_3 : decode cX4_findNearest 3 = .ok (.lstore_n 3, 1) := by decide +kernel
theorem dX4_findNearest_4 : decode cX4_findNearest 4 = .ok (.lconst 1, 1) := by decide +kernel
theorem dX4_findNearest_5 : decode cX4_findNearest 5 = .ok (.lstore 5, 2) := by decide +kernel
theorem dX4_findNearest_7 : decode cX4_findNearest 7 = .ok (.iconst 0, 1) := by decide +kernel
theorem dX4_findNearest_8 : decode cX4_findNearest 8 = .ok (.istore 7, 2) := by decide +kernel
theorem dX4_findNearest_10 : decode cX4_findNearest 10 = .ok (.iload 7, 2) := by decide +kernel
theorem dX4_findNearest_12 : decode cX4_findNearest 12 = .ok (.aload_n 1, 1) := by decide +kernel
theorem dX4_findNearest_13 : decode cX4_findNearest 13 = .ok (.getfield 58, 3) := by decide +kernel
theorem dX4_findNearest_16 : decode cX4_findNearest 16 = .ok (.if_icmp .ge 119, 3) := by decide +kernel
theorem dX4_findNearest_19 : decode cX4_findNearest 19 = .ok (.iload 7, 2) := by decide +kernel
theorem dX4_findNearest_21 : decode cX4_findNearest 21 = .ok (.iconst 1, 1) := by decide +kernel
theorem dX4_findNearest_22 : decode cX4_findNearest 22 = .ok (.iadd, 1) := by decide +kernel
theorem dX4_findNearest_23 : decode cX4_findNearest 23 = .ok (.istore 8, 2) := by decide +kernel
theorem dX4_findNearest_25 : decode cX4_findNearest 25 = .ok (.iload 8, 2) := by decide +kernel
theorem dX4_findNearest_27 : decode cX4_findNearest 27 = .ok (.aload_n 1, 1) := by decide +kernel
theorem dX4_findNearest_28 : decode cX4_findNearest 28 = .ok (.getfield 58, 3) := by decide +kernel
theorem dX4_findNearest_31 : decode cX4_findNearest 31 = .ok (.if_icmp .ge 98, 3) := by decide +kernel
theorem dX4_findNearest_34 : decode cX4_findNearest 34 = .ok (.aload_n 0, 1) := by decide +kernel
theorem dX4_findNearest_35 : decode cX4_findNearest 35 = .ok (.getfield 31, 3) := by decide +kernel
theorem dX4_findNearest_38 : decode cX4_findNearest 38 = .ok (.iload 7, 2) := by decide +kernel
theorem dX4_findNearest_40 : decode cX4_findNearest 40 = .ok (.iaload, 1) := by decide +kernel
theorem dX4_findNearest_41 : decode cX4_findNearest 41 = .ok (.ifCond .le 82, 3) := by decide +kernel
theorem dX4_findNearest_44 : decode cX4_findNearest 44 = .ok (.aload_n 0, 1) := by decide +kernel
theorem dX4_findNearest_45 : decode cX4_findNearest 45 = .ok (.getfield 31, 3) := by decide +kernel
theorem dX4_findNearest_48 : decode cX4_findNearest 48 = .ok (.iload 8, 2) := by decide +kernel
theorem dX4_findNearest_50 : decode cX4_findNearest 50 = .ok (.iaload, 1) := by decide +kernel
theorem dX4_findNearest_51 : decode cX4_findNearest 51 = .ok (.ifCond .le 72, 3) := by decide +kernel
theorem dX4_findNearest_54 : decode cX4_findNearest 54 = .ok (.aload_n 0, 1) := by decide +kernel
theorem dX4_findNearest_55 : decode cX4_findNearest 55 = .ok (.aload_n 1, 1) := by decide +kernel
theorem dX4_findNearest_56 : decode cX4_findNearest 56 = .ok (.iload 7, 2) := by decide +kernel
theorem dX4_findNearest_58 : decode cX4_findNearest 58 = .ok (.iload 8, 2) := by decide +kernel
theorem dX4_findNearest_60 : decode cX4_findNearest 60 = .ok (.invokevirtual 86, 3) := by decide +kernel
theorem dX4_findNearest_63 : decode cX4_findNearest 63 = .ok (.lstore 9, 2) := by decide +kernel
theorem dX4_findNearest_65 : decode cX4_findNearest 65 = .ok (.aload_n 0, 1) := by decide +kernel
theorem dX4_findNearest_66 : decode cX4_findNearest 66 = .ok (.iload 7, 2) := by decide +kernel
theorem dX4_findNearest_68 : decode cX4_findNearest 68 = .ok (.iload 8, 2) := by decide +kernel
theorem dX4_findNearest_70 : decode cX4_findNearest 70 = .ok (.invokevirtual 90, 3) := by decide +kernel
theorem dX4_findNearest_73 : decode cX4_findNearest 73 = .ok (.lstore 11, 2) := by decide +kernel
theorem dX4_findNearest_75 : decode cX4_findNearest 75 = .ok (.iload_n 2, 1) := by decide +kernel
theorem dX4_findNearest_76 : decode cX4_findNearest 76 = .ok (.ifCond .eq 16, 3) := by decide +kernel
theorem dX4_findNearest_79 : decode cX4_findNearest 79 = .ok (.lload 9, 2) := by decide +kernel
theorem dX4_findNearest_81 : decode cX4_findNearest 81 = .ok (.lload 11, 2) := by decide +kernel
theorem dX4_findNearest_83 : decode cX4_findNearest 83 = .ok (.lload_n 3, 1) := by decide +kernel
theorem dX4_findNearest_84 : decode cX4_findNearest 84 = .ok (.lload 5, 2) := by decide +kernel
theorem dX4_findNearest_86 : decode cX4_findNearest 86 = .ok (.invokestatic 94, 3) := by decide +kernel
theorem dX4_findNearest_89 : decode cX4_findNearest 89 = .ok (.ifCond .eq 34, 3) := by decide +kernel
theorem dX4_findNearest_92 : decode cX4_findNearest 92 = .ok (.iconst 1, 1) := by decide +kernel
theorem dX4_findNearest_93 : decode cX4_findNearest 93 = .ok (.istore_n 2, 1) := by decide +kernel
theorem dX4_findNearest_94 : decode cX4_findNearest 94 = .ok (.lload 9, 2) := by decide +kernel
theorem dX4_findNearest_96 : decode cX4_findNearest 96 = .ok (.lstore_n 3, 1) := by decide +kernel
theorem dX4_findNearest_97 : decode cX4_findNearest 97 = .ok (.lload 11, 2) := by decide +kernel
theorem dX4_findNearest_99 : decode cX4_findNearest 99 = .ok (.lstore 5, 2) := by decide +kernel
theorem dX4_findNearest_101 : decode cX4_findNearest 101 = .ok (.aload_n 0, 1) := by decide +kernel
theorem dX4_findNearest_102 : decode cX4_findNearest 102 = .ok (.getfield 9, 3) := by decide +kernel
theorem dX4_findNearest_105 : decode cX4_findNearest 105 = .ok (.aload_n 0, 1) := by decide +kernel
theorem dX4_findNearest_106 : decode cX4_findNearest 106 = .ok (.getfield 51, 3) := by decide +kernel
theorem dX4_findNearest_109 : decode cX4_findNearest 109 = .ok (.iload 7, 2) := by decide +kernel
theorem dX4_findNearest_111 : decode cX4_findNearest 111 = .ok (.iastore, 1) := by decide +kernel
theorem dX4_findNearest_112 : decode cX4_findNearest 112 = .ok (.aload_n 0, 1) := by decide +kernel
theorem dX4_findNearest_113 : decode cX4_findNearest 113 = .ok (.getfield 15, 3) := by decide +kernel
theorem dX4_findNearest_116 : decode cX4_findNearest 116 = .ok (.aload_n 0, 1) := by decide +kernel
theorem dX4_findNearest_117 : decode cX4_findNearest 117 = .ok (.getfield 51, 3) := by decide +kernel
theorem dX4_findNearest_120 : decode cX4_findNearest 120 = .ok (.iload 8, 2) := by decide +kernel
theorem dX4_findNearest_122 : decode cX4_findNearest 122 = .ok (.iastore, 1) := by decide +kernel
theorem dX4_findNearest_123 : decode cX4_findNearest 123 = .ok (.iinc 8 1, 3) := by decide +kernel
theorem dX4_findNearest_126 : decode cX4_findNearest 126 = .ok (.goto (-101), 3) := by decide +kernel
theorem dX4_findNearest_129 : decode cX4_findNearest 129 = .ok (.iinc 7 1, 3) := by decide +kernel
theorem dX4_findNearest_132 : decode cX4_findNearest 132 = .ok (.goto (-122), 3) := by decide +kernel
theorem dX4_findNearest_135 : decode cX4_findNearest 135 = .ok (.aload_n 0, 1) := by decide +kernel
theorem dX4_findNearest_136 : decode cX4_findNearest 136 = .ok (.getfield 43, 3) := by decide +kernel
theorem dX4_findNearest_139 : decode cX4_findNearest 139 = .ok (.lload_n 3, 1) := by decide +kernel
theorem dX4_findNearest_140 : decode cX4_findNearest 140 = .ok (.lload 5, 2) := by decide +kernel
theorem dX4_findNearest_142 : decode cX4_findNearest 142 = .ok (.invokevirtual 98, 3) := by decide +kernel
theorem dX4_findNearest_145 : decode cX4_findNearest 145 = .ok (.aload_n 0, 1) := by decide +kernel
theorem dX4_findNearest_146 : decode cX4_findNearest 146 = .ok (.getfield 21, 3) := by decide +kernel
theorem dX4_findNearest_149 : decode cX4_findNearest 149 = .ok (.aload_n 0, 1) := by decide +kernel
theorem dX4_findNearest_150 : decode cX4_findNearest 150 = .ok (.getfield 51, 3) := by decide +kernel
theorem dX4_findNearest_153 : decode cX4_findNearest 153 = .ok (.aload_n 0, 1) := by decide +kernel
theorem dX4_findNearest_154 : decode cX4_findNearest 154 = .ok (.getfield 43, 3) := by decide +kernel
theorem dX4_findNearest_157 : decode cX4_findNearest 157 = .ok (.getfield 102, 3) := by decide +kernel
theorem dX4_findNearest_160 : decode cX4_findNearest 160 = .ok (.lastore, 1) := by decide +kernel
theorem dX4_findNearest_161 : decode cX4_findNearest 161 = .ok (.aload_n 0, 1) := by decide +kernel
theorem dX4_findNearest_162 : decode cX4_findNearest 162 = .ok (.getfield 25, 3) := by decide +kernel
theorem dX4_findNearest_165 : decode cX4_findNearest 165 = .ok (.aload_n 0, 1) := by decide +kernel
theorem dX4_findNearest_166 : decode cX4_findNearest 166 = .ok (.getfield 51, 3) := by decide +kernel
theorem dX4_findNearest_169 : decode cX4_findNearest 169 = .ok (.aload_n 0, 1) := by decide +kernel
theorem dX4_findNearest_170 : decode cX4_findNearest 170 = .ok (.getfield 43, 3) := by decide +kernel
theorem dX4_findNearest_173 : decode cX4_findNearest 173 = .ok (.getfield 106, 3) := by decide +kernel
theorem dX4_findNearest_176 : decode cX4_findNearest 176 = .ok (.lastore, 1) := by decide +kernel
theorem dX4_findNearest_177 : decode cX4_findNearest 177 = .ok (.return_, 1) := by decide +kernel
theorem dX4_gapAbove_0 : decode cX4_gapAbove 0 = .ok (.aload_n 0, 1) := by decide +kernel
theorem dX4_gapAbove_1 : decode cX4_gapAbove 1 = .ok (.getfield 47, 3) := by decide +kernel
theorem dX4_gapAbove_4 : decode cX4_gapAbove 4 = .ok (.iconst 3, 1) := by decide +kernel
theorem dX4_gapAbove_5 : decode cX4_gapAbove 5 = .ok (.if_icmp .eq 15, 3) := by decide +kernel
theorem dX4_gapAbove_8 : decode cX4_gapAbove 8 = .ok (.aload_n 0, 1) := by decide +kernel
theorem dX4_gapAbove_9 : decode cX4_gapAbove 9 = .ok (.getfield 37, 3) := by decide +kernel
theorem dX4_gapAbove_12 : decode cX4_gapAbove 12 = .ok (.iload_n 2, 1) := by decide +kernel
theorem dX4_gapAbove_13 : decode cX4_gapAbove 13 = .ok (.bipush 30, 2) := by decide +kernel
theorem dX4_gapAbove_15 : decode cX4_gapAbove 15 = .ok (.imul, 1) := by decide +kernel
theorem dX4_gapAbove_16 : decode cX4_gapAbove 16 = .ok (.iload_n 3, 1) := by decide +kernel
theorem dX4_gapAbove_17 : decode cX4_gapAbove 17 = .ok (.iadd, 1) := by decide +kernel
theorem dX4_gapAbove_18 : decode cX4_gapAbove 18 = .ok (.laload, 1) := by decide +kernel
theorem dX4_gapAbove_19 : decode cX4_gapAbove 19 = .ok (.lreturn, 1) := by decide +kernel
theorem dX4_gapAbove_20 : decode cX4_gapAbove 20 = .ok (.lconst 0, 1) := by decide +kernel
theorem dX4_gapAbove_21 : decode cX4_gapAbove 21 = .ok (.lstore 4, 2) := by decide +kernel
theorem dX4_gapAbove_23 : decode cX4_gapAbove 23 = .ok (.iconst 0, 1) := by decide +kernel
theorem dX4_gapAbove_24 : decode cX4_gapAbove 24 = .ok (.istore 6, 2) := by decide +kernel
theorem dX4_gapAbove_26 : decode cX4_gapAbove 26 = .ok (.iload 6, 2) := by decide +kernel
theorem dX4_gapAbove_28 : decode cX4_gapAbove 28 = .ok (.aload_n 1, 1) := by decide +kernel
theorem dX4_gapAbove_29 : decode cX4_gapAbove 29 = .ok (.getfield 75, 3) := by decide +kernel
theorem dX4_gapAbove_32 : decode cX4_gapAbove 32 = .ok (.if_icmp .ge 60, 3) := by decide +kernel
theorem dX4_gapAbove_35 : decode cX4_gapAbove 35 = .ok (.aload_n 0, 1) := by decide +kernel
theorem dX4_gapAbove_36 : decode cX4_gapAbove 36 = .ok (.getfield 34, 3) := by decide +kernel
theorem dX4_gapAbove_39 : decode cX4_gapAbove 39 = .ok (.iload_n 2, 1) := by decide +kernel
theorem dX4_gapAbove_40 : decode cX4_gapAbove 40 = .ok (.iconst 4, 1) := by decide +kernel
theorem dX4_gapAbove_41 : decode cX4_gapAbove 41 = .ok (.imul, 1) := by decide +kernel
theorem dX4_gapAbove_42 : decode cX4_gapAbove 42 = .ok (.iload 6, 2) := by decide +kernel
theorem dX4_gapAbove_44 : decode cX4_gapAbove 44 = .ok (.iadd, 1) := by decide +kernel
theorem dX4_gapAbove_45 : decode cX4_gapAbove 45 = .ok (.laload, 1) := by decide +kernel
theorem dX4_gapAbove_46 : decode cX4_gapAbove 46 = .ok (.aload_n 0, 1) := by decide +kernel
theorem dX4_gapAbove_47 : decode cX4_gapAbove 47 = .ok (.getfield 31, 3) := by decide +kernel
theorem dX4_gapAbove_50 : decode cX4_gapAbove 50 = .ok (.iload_n 3, 1) := by decide +kernel
theorem dX4_gapAbove_51 : decode cX4_gapAbove 51 = .ok (.iaload, 1) := by decide +kernel
theorem dX4_gapAbove_52 : decode cX4_gapAbove 52 = .ok (.i2l, 1) := by decide +kernel
theorem dX4_gapAbove_53 : decode cX4_gapAbove 53 = .ok (.lmul, 1) := by decide +kernel
theorem dX4_gapAbove_54 : decode cX4_gapAbove 54 = .ok (.aload_n 0, 1) := by decide +kernel
theorem dX4_gapAbove_55 : decode cX4_gapAbove 55 = .ok (.getfield 34, 3) := by decide +kernel
theorem dX4_gapAbove_58 : decode cX4_gapAbove 58 = .ok (.iload_n 3, 1) := by decide +kernel
theorem dX4_gapAbove_59 : decode cX4_gapAbove 59 = .ok (.iconst 4, 1) := by decide +kernel
theorem dX4_gapAbove_60 : decode cX4_gapAbove 60 = .ok (.imul, 1) := by decide +kernel
theorem dX4_gapAbove_61 : decode cX4_gapAbove 61 = .ok (.iload 6, 2) := by decide +kernel
theorem dX4_gapAbove_63 : decode cX4_gapAbove 63 = .ok (.iadd, 1) := by decide +kernel
theorem dX4_gapAbove_64 : decode cX4_gapAbove 64 = .ok (.laload, 1) := by decide +kernel
theorem dX4_gapAbove_65 : decode cX4_gapAbove 65 = .ok (.aload_n 0, 1) := by decide +kernel
theorem dX4_gapAbove_66 : decode cX4_gapAbove 66 = .ok (.getfield 31, 3) := by decide +kernel
theorem dX4_gapAbove_69 : decode cX4_gapAbove 69 = .ok (.iload_n 2, 1) := by decide +kernel
theorem dX4_gapAbove_70 : decode cX4_gapAbove 70 = .ok (.iaload, 1) := by decide +kernel
theorem dX4_gapAbove_71 : decode cX4_gapAbove 71 = .ok (.i2l, 1) := by decide +kernel
theorem dX4_gapAbove_72 : decode cX4_gapAbove 72 = .ok (.lmul, 1) := by decide +kernel
theorem dX4_gapAbove_73 : decode cX4_gapAbove 73 = .ok (.lsub, 1) := by decide +kernel
theorem dX4_gapAbove_74 : decode cX4_gapAbove 74 = .ok (.lstore 7, 2) := by decide +kernel
theorem dX4_gapAbove_76 : decode cX4_gapAbove 76 = .ok (.lload 4, 2) := by decide +kernel
theorem dX4_gapAbove_78 : decode cX4_gapAbove 78 = .ok (.lload 7, 2) := by decide +kernel
theorem dX4_gapAbove_80 : decode cX4_gapAbove 80 = .ok (.lload 7, 2) := by decide +kernel
theorem dX4_gapAbove_82 : decode cX4_gapAbove 82 = .ok (.lmul, 1) := by decide +kernel
theorem dX4_gapAbove_83 : decode cX4_gapAbove 83 = .ok (.ladd, 1) := by decide +kernel
theorem dX4_gapAbove_84 : decode cX4_gapAbove 84 = .ok (.lstore 4, 2) := by decide +kernel
theorem dX4_gapAbove_86 : decode cX4_gapAbove 86 = .ok (.iinc 6 1, 3) := by decide +kernel
theorem dX4_gapAbove_89 : decode cX4_gapAbove 89 = .ok (.goto (-63), 3) := by decide +kernel
theorem dX4_gapAbove_92 : decode cX4_gapAbove 92 = .ok (.lload 4, 2) := by decide +kernel
theorem dX4_gapAbove_94 : decode cX4_gapAbove 94 = .ok (.lreturn, 1) := by decide +kernel
theorem dX4_gapBelow_0 : decode cX4_gapBelow 0 = .ok (.aload_n 0, 1) := by decide +kernel
theorem dX4_gapBelow_1 : decode cX4_gapBelow 1 = .ok (.getfield 47, 3) := by decide +kernel
theorem dX4_gapBelow_4 : decode cX4_gapBelow 4 = .ok (.lookupswitch 72 #[(2, 28), (3, 43)], 28) := by decide +kernel
theorem dX4_gapBelow_32 : decode cX4_gapBelow 32 = .ok (.aload_n 0, 1) := by decide +kernel
theorem dX4_gapBelow_33 : decode cX4_gapBelow 33 = .ok (.getfield 31, 3) := by decide +kernel
theorem dX4_gapBelow_36 : decode cX4_gapBelow 36 = .ok (.iload_n 1, 1) := by decide +kernel
theorem dX4_gapBelow_37 : decode cX4_gapBelow 37 = .ok (.iaload, 1) := by decide +kernel
theorem dX4_gapBelow_38 : decode cX4_gapBelow 38 = .ok (.aload_n 0, 1) := by decide +kernel
theorem dX4_gapBelow_39 : decode cX4_gapBelow 39 = .ok (.getfield 31, 3) := by decide +kernel
theorem dX4_gapBelow_42 : decode cX4_gapBelow 42 = .ok (.iload_n 2, 1) := by decide +kernel
theorem dX4_gapBelow_43 : decode cX4_gapBelow 43 = .ok (.iaload, 1) := by decide +kernel
theorem dX4_gapBelow_44 : decode cX4_gapBelow 44 = .ok (.imul, 1) := by decide +kernel
theorem dX4_gapBelow_45 : decode cX4_gapBelow 45 = .ok (.i2l, 1) := by decide +kernel
theorem dX4_gapBelow_46 : decode cX4_gapBelow 46 = .ok (.lreturn, 1) := by decide +kernel
theorem dX4_gapBelow_47 : decode cX4_gapBelow 47 = .ok (.aload_n 0, 1) := by decide +kernel
theorem dX4_gapBelow_48 : decode cX4_gapBelow 48 = .ok (.getfield 31, 3) := by decide +kernel
theorem dX4_gapBelow_51 : decode cX4_gapBelow 51 = .ok (.iload_n 1, 1) := by decide +kernel
theorem dX4_gapBelow_52 : decode cX4_gapBelow 52 = .ok (.iaload, 1) := by decide +kernel
theorem dX4_gapBelow_53 : decode cX4_gapBelow 53 = .ok (.aload_n 0, 1) := by decide +kernel
theorem dX4_gapBelow_54 : decode cX4_gapBelow 54 = .ok (.getfield 31, 3) := by decide +kernel
theorem dX4_gapBelow_57 : decode cX4_gapBelow 57 = .ok (.iload_n 2, 1) := by decide +kernel
theorem dX4_gapBelow_58 : decode cX4_gapBelow 58 = .ok (.iaload, 1) := by decide +kernel
theorem dX4_gapBelow_59 : decode cX4_gapBelow 59 = .ok (.imul, 1) := by decide +kernel
theorem dX4_gapBelow_60 : decode cX4_gapBelow 60 = .ok (.aload_n 0, 1) := by decide +kernel
theorem dX4_gapBelow_61 : decode cX4_gapBelow 61 = .ok (.getfield 31, 3) := by decide +kernel
theorem dX4_gapBelow_64 : decode cX4_gapBelow 64 = .ok (.iload_n 1, 1) := by decide +kernel
theorem dX4_gapBelow_65 : decode cX4_gapBelow 65 = .ok (.iaload, 1) := by decide +kernel
theorem dX4_gapBelow_66 : decode cX4_gapBelow 66 = .ok (.aload_n 0, 1) := by decide +kernel
theorem dX4_gapBelow_67 : decode cX4_gapBelow 67 = .ok (.getfield 31, 3) := by decide +kernel
theorem dX4_gapBelow_70 : decode cX4_gapBelow 70 = .ok (.iload_n 2, 1) := by decide +kernel
theorem dX4_gapBelow_71 : decode cX4_gapBelow 71 = .ok (.iaload, 1) := by decide +kernel
theorem dX4_gapBelow_72 : decode cX4_gapBelow 72 = .ok (.iadd, 1) := by decide +kernel
theorem dX4_gapBelow_73 : decode cX4_gapBelow 73 = .ok (.imul, 1) := by decide +kernel
theorem dX4_gapBelow_74 : decode cX4_gapBelow 74 = .ok (.i2l, 1) := by decide +kernel
theorem dX4_gapBelow_75 : decode cX4_gapBelow 75 = .ok (.lreturn, 1) := by decide +kernel
theorem dX4_gapBelow_76 : decode cX4_gapBelow 76 = .ok (.lconst 1, 1) := by decide +kernel
theorem dX4_gapBelow_77 : decode cX4_gapBelow 77 = .ok (.lreturn, 1) := by decide +kernel
theorem dX4_merge_0 : decode cX4_merge 0 = .ok (.iconst 0, 1) := by decide +kernel
theorem dX4_merge_1 : decode cX4_merge 1 = .ok (.istore 4, 2) := by decide +kernel
theorem dX4_merge_3 : decode cX4_merge 3 = .ok (.iload 4, 2) := by decide +kernel
theorem dX4_merge_5 : decode cX4_merge 5 = .ok (.aload_n 1, 1) := by decide +kernel
theorem dX4_merge_6 : decode cX4_merge 6 = .ok (.getfield 58, 3) := by decide +kernel
theorem dX4_merge_9 : decode cX4_merge 9 = .ok (.if_icmp .ge 89, 3) := by decide +kernel
theorem dX4_merge_12 : decode cX4_merge 12 = .ok (.aload_n 0, 1) := by decide +kernel
theorem dX4_merge_13 : decode cX4_merge 13 = .ok (.getfield 31, 3) := by decide +kernel
theorem dX4_merge_16 : decode cX4_merge 16 = .ok (.iload 4, 2) := by decide +kernel
theorem dX4_merge_18 : decode cX4_merge 18 = .ok (.iaload, 1) := by decide +kernel
theorem dX4_merge_19 : decode cX4_merge 19 = .ok (.ifCond .le 73, 3) := by decide +kernel
theorem dX4_merge_22 : decode cX4_merge 22 = .ok (.iload 4, 2) := by decide +kernel
theorem dX4_merge_24 : decode cX4_merge 24 = .ok (.iload_n 2, 1) := by decide +kernel
theorem dX4_merge_25 : decode cX4_merge 25 = .ok (.if_icmp .eq 67, 3) := by decide +kernel
theorem dX4_merge_28 : decode cX4_merge 28 = .ok (.iload 4, 2) := by decide +kernel
theorem dX4_merge_30 : decode cX4_merge 30 = .ok (.iload_n 3, 1) := by decide +kernel
theorem dX4_merge_31 : decode cX4_merge 31 = .ok (.if_icmp .eq 61, 3) := by decide +kernel
theorem dX4_merge_34 : decode cX4_merge 34 = .ok (.aload_n 0, 1) := by decide +kernel
theorem dX4_merge_35 : decode cX4_merge 35 = .ok (.aload_n 0, 1) := by decide +kernel
theorem dX4_merge_36 : decode cX4_merge 36 = .ok (.getfield 37, 3) := by decide +kernel
theorem dX4_merge_39 : decode cX4_merge 39 = .ok (.iload_n 2, 1) := by decide +kernel
theorem dX4_merge_40 : decode cX4_merge 40 = .ok (.bipush 30, 2) := by decide +kernel
theorem dX4_merge_42 : decode cX4_merge 42 = .ok (.imul, 1) := by decide +kernel
theorem dX4_merge_43 : decode cX4_merge 43 = .ok (.iload 4, 2) := by decide +kernel
theorem dX4_merge_45 : decode cX4_merge 45 = .ok (.iadd, 1) := by decide +kernel
theorem dX4_merge_46 : decode cX4_merge 46 = .ok (.laload, 1) := by decide +kernel
theorem dX4_merge_47 : decode cX4_merge 47 = .ok (.aload_n 0, 1) := by decide +kernel
theorem dX4_merge_48 : decode cX4_merge 48 = .ok (.getfield 37, 3) := by decide +kernel
theorem dX4_merge_51 : decode cX4_merge 51 = .ok (.iload_n 3, 1) := by decide +kernel
theorem dX4_merge_52 : decode cX4_merge 52 = .ok (.bipush 30, 2) := by decide +kernel
theorem dX4_merge_54 : decode cX4_merge 54 = .ok (.imul, 1) := by decide +kernel
theorem dX4_merge_55 : decode cX4_merge 55 = .ok (.iload 4, 2) := by decide +kernel
theorem dX4_merge_57 : decode cX4_merge 57 = .ok (.iadd, 1) := by decide +kernel
theorem dX4_merge_58 : decode cX4_merge 58 = .ok (.laload, 1) := by decide +kernel
theorem dX4_merge_59 : decode cX4_merge 59 = .ok (.invokevirtual 109, 3) := by decide +kernel
theorem dX4_merge_62 : decode cX4_merge 62 = .ok (.lstore 5, 2) := by decide +kernel
theorem dX4_merge_64 : decode cX4_merge 64 = .ok (.aload_n 0, 1) := by decide +kernel
theorem dX4_merge_65 : decode cX4_merge 65 = .ok (.getfield 37, 3) := by decide +kernel
theorem dX4_merge_68 : decode cX4_merge 68 = .ok (.iload_n 2, 1) := by decide +kernel
theorem dX4_merge_69 : decode cX4_merge 69 = .ok (.bipush 30, 2) := by decide +kernel
theorem dX4_merge_71 : decode cX4_merge 71 = .ok (.imul, 1) := by decide +kernel
theorem dX4_merge_72 : decode cX4_merge 72 = .ok (.iload 4, 2) := by decide +kernel
theorem dX4_merge_74 : decode cX4_merge 74 = .ok (.iadd, 1) := by decide +kernel
theorem dX4_merge_75 : decode cX4_merge 75 = .ok (.lload 5, 2) := by decide +kernel
theorem dX4_merge_77 : decode cX4_merge 77 = .ok (.lastore, 1) := by decide +kernel
theorem dX4_merge_78 : decode cX4_merge 78 = .ok (.aload_n 0, 1) := by decide +kernel
theorem dX4_merge_79 : decode cX4_merge 79 = .ok (.getfield 37, 3) := by decide +kernel
theorem dX4_merge_82 : decode cX4_merge 82 = .ok (.iload 4, 2) := by decide +kernel
theorem dX4_merge_84 : decode cX4_merge 84 = .ok (.bipush 30, 2) := by decide +kernel
theorem dX4_merge_86 : decode cX4_merge 86 = .ok (.imul, 1) := by decide +kernel
theorem dX4_merge_87 : decode cX4_merge 87 = .ok (.iload_n 2, 1) := by decide +kernel
theorem dX4_merge_88 : decode cX4_merge 88 = .ok (.iadd, 1) := by decide +kernel
theorem dX4_merge_89 : decode cX4_merge 89 = .ok (.lload 5, 2) := by decide +kernel
theorem dX4_merge_91 : decode cX4_merge 91 = .ok (.lastore, 1) := by decide +kernel
theorem dX4_merge_92 : decode cX4_merge 92 = .ok (.iinc 4 1, 3) := by decide +kernel
theorem dX4_merge_95 : decode cX4_merge 95 = .ok (.goto (-92), 3) := by decide +kernel
theorem dX4_merge_98 : decode cX4_merge 98 = .ok (.iconst 0, 1) := by decide +kernel
theorem dX4_merge_99 : decode cX4_merge 99 = .ok (.istore 4, 2) := by decide +kernel
theorem dX4_merge_101 : decode cX4_merge 101 = .ok (.iload 4, 2) := by decide +kernel
theorem dX4_merge_103 : decode cX4_merge 103 = .ok (.aload_n 1, 1) := by decide +kernel
theorem dX4_merge_104 : decode cX4_merge 104 = .ok (.getfield 75, 3) := by decide +kernel
theorem dX4_merge_107 : decode cX4_merge 107 = .ok (.if_icmp .ge 34, 3) := by decide +kernel
theorem dX4_merge_110 : decode cX4_merge 110 = .ok (.aload_n 0, 1) := by decide +kernel
theorem dX4_merge_111 : decode cX4_merge 111 = .ok (.getfield 34, 3) := by decide +kernel
theorem dX4_merge_114 : decode cX4_merge 114 = .ok (.iload_n 2, 1) := by decide +kernel
theorem dX4_merge_115 : decode cX4_merge 115 = .ok (.iconst 4, 1) := by decide +kernel
theorem dX4_merge_116 : decode cX4_merge 116 = .ok (.imul, 1) := by decide +kernel
theorem dX4_merge_117 : decode cX4_merge 117 = .ok (.iload 4, 2) := by decide +kernel
theorem dX4_merge_119 : decode cX4_merge 119 = .ok (.iadd, 1) := by decide +kernel
theorem dX4_merge_120 : decode cX4_merge 120 = .ok (.dup2, 1) := by decide +kernel
theorem dX4_merge_121 : decode cX4_merge 121 = .ok (.laload, 1) := by decide +kernel
theorem dX4_merge_122 : decode cX4_merge 122 = .ok (.aload_n 0, 1) := by decide +kernel
theorem dX4_merge_123 : decode cX4_merge 123 = .ok (.getfield 34, 3) := by decide +kernel
theorem dX4_merge_126 : decode cX4_merge 126 = .ok (.iload_n 3, 1) := by decide +kernel
theorem dX4_merge_127 : decode cX4_merge 127 = .ok (.iconst 4, 1) := by decide +kernel
theorem dX4_merge_128 : decode cX4_merge 128 = .ok (.imul, 1) := by decide +kernel
theorem dX4_merge_129 : decode cX4_merge 129 = .ok (.iload 4, 2) := by decide +kernel
theorem dX4_merge_131 : decode cX4_merge 131 = .ok (.iadd, 1) := by decide +kernel
theorem dX4_merge_132 : decode cX4_merge 132 = .ok (.laload, 1) := by decide +kernel
theorem dX4_merge_133 : decode cX4_merge 133 = .ok (.ladd, 1) := by decide +kernel
theorem dX4_merge_134 : decode cX4_merge 134 = .ok (.lastore, 1) := by decide +kernel
theorem dX4_merge_135 : decode cX4_merge 135 = .ok (.iinc 4 1, 3) := by decide +kernel
theorem dX4_merge_138 : decode cX4_merge 138 = .ok (.goto (-37), 3) := by decide +kernel
theorem dX4_merge_141 : decode cX4_merge 141 = .ok (.aload_n 0, 1) := by decide +kernel
theorem dX4_merge_142 : decode cX4_merge 142 = .ok (.getfield 31, 3) := by decide +kernel
theorem dX4_merge_145 : decode cX4_merge 145 = .ok (.iload_n 2, 1) := by decide +kernel
theorem dX4_merge_146 : decode cX4_merge 146 = .ok (.dup2, 1) := by decide +kernel
theorem dX4_merge_147 : decode cX4_merge 147 = .ok (.iaload, 1) := by decide +kernel
theorem dX4_merge_148 : decode cX4_merge 148 = .ok (.aload_n 0, 1) := by decide +kernel
theorem dX4_merge_149 : decode cX4_merge 149 = .ok (.getfield 31, 3) := by decide +kernel
theorem dX4_merge_152 : decode cX4_merge 152 = .ok (.iload_n 3, 1) := by decide +kernel
theorem dX4_merge_153 : decode cX4_merge 153 = .ok (.iaload, 1) := by decide +kernel
theorem dX4_merge_154 : decode cX4_merge 154 = .ok (.iadd, 1) := by decide +kernel
theorem dX4_merge_155 : decode cX4_merge 155 = .ok (.iastore, 1) := by decide +kernel
theorem dX4_merge_156 : decode cX4_merge 156 = .ok (.aload_n 0, 1) := by decide +kernel
theorem dX4_merge_157 : decode cX4_merge 157 = .ok (.getfield 31, 3) := by decide +kernel
theorem dX4_merge_160 : decode cX4_merge 160 = .ok (.iload_n 3, 1) := by decide +kernel
theorem dX4_merge_161 : decode cX4_merge 161 = .ok (.iconst 0, 1) := by decide +kernel
theorem dX4_merge_162 : decode cX4_merge 162 = .ok (.iastore, 1) := by decide +kernel
theorem dX4_merge_163 : decode cX4_merge 163 = .ok (.return_, 1) := by decide +kernel
theorem dX4_gapToBoth_0 : decode cX4_gapToBoth 0 = .ok (.aload_n 0, 1) := by decide +kernel
theorem dX4_gapToBoth_1 : decode cX4_gapToBoth 1 = .ok (.getfield 47, 3) := by decide +kernel
theorem dX4_gapToBoth_4 : decode cX4_gapToBoth 4 = .ok (.lookupswitch 40 #[(0, 28), (1, 34)], 28) := by decide +kernel
theorem dX4_gapToBoth_32 : decode cX4_gapToBoth 32 = .ok (.lload_n 1, 1) := by decide +kernel
theorem dX4_gapToBoth_33 : decode cX4_gapToBoth 33 = .ok (.lload_n 3, 1) := by decide +kernel
theorem dX4_gapToBoth_34 : decode cX4_gapToBoth 34 = .ok (.invokestatic 113, 3) := by decide +kernel
theorem dX4_gapToBoth_37 : decode cX4_gapToBoth 37 = .ok (.lreturn, 1) := by decide +kernel
theorem dX4_gapToBoth_38 : decode cX4_gapToBoth 38 = .ok (.lload_n 1, 1) := by decide +kernel
theorem dX4_gapToBoth_39 : decode cX4_gapToBoth 39 = .ok (.lload_n 3, 1) := by decide +kernel
theorem dX4_gapToBoth_40 : decode cX4_gapToBoth 40 = .ok (.invokestatic 118, 3) := by decide +kernel
theorem dX4_gapToBoth_43 : decode cX4_gapToBoth 43 = .ok (.lreturn, 1) := by decide +kernel
theorem dX4_gapToBoth_44 : decode cX4_gapToBoth 44 = .ok (.lload_n 1, 1) := by decide +kernel
theorem dX4_gapToBoth_45 : decode cX4_gapToBoth 45 = .ok (.lload_n 3, 1) := by decide +kernel
theorem dX4_gapToBoth_46 : decode cX4_gapToBoth 46 = .ok (.ladd, 1) := by decide +kernel
theorem dX4_gapToBoth_47 : decode cX4_gapToBoth 47 = .ok (.lreturn, 1) := by decide +kernel
theorem dX5_init_0 : decode cX5_init 0 = .ok (.aload_n 0, 1) := by decide +kernel
theorem dX5_init_1 : decode cX5_init 1 = .ok (.invokespecial 3, 3) := by decide +kernel
theorem dX5_init_4 : decode cX5_init 4 = .ok (.aload_n 0, 1) := by decide +kernel
theorem dX5_init_5 : decode cX5_init 5 = .ok (.bipush 30, 2) := by decide +kernel
theorem dX5_init_7 : decode cX5_init 7 = .ok (.newarray .int, 2) := by decide +kernel
theorem dX5_init_9 : decode cX5_init 9 = .ok (.putfield 9, 3) := by decide +kernel
theorem dX5_init_12 : decode cX5_init 12 = .ok (.aload_n 0, 1) := by decide +kernel
theorem dX5_init_13 : decode cX5_init 13 = .ok (.bipush 30, 2) := by decide +kernel
theorem dX5_init_15 : decode cX5_init 15 = .ok (.newarray .int, 2) := by decide +kernel
theorem dX5_init_17 : decode cX5_init 17 = .ok (.putfield 15, 3) := by decide +kernel
theorem dX5_init_20 : decode cX5_init 20 = .ok (.aload_n 0, 1) := by decide +kernel
theorem dX5_init_21 : decode cX5_init 21 = .ok (.bipush 6, 2) := by decide +kernel
theorem dX5_init_23 : decode cX5_init 23 = .ok (.newarray .int, 2) := by decide +kernel
theorem dX5_init_25 : decode cX5_init 25 = .ok (.putfield 18, 3) := by decide +kernel
theorem dX5_init_28 : decode cX5_init 28 = .ok (.aload_n 0, 1) := by decide +kernel
theorem dX5_init_29 : decode cX5_init 29 = .ok (.bipush 24, 2) := by decide +kernel
theorem dX5_init_31 : decode cX5_init 31 = .ok (.newarray .int, 2) := by decide +kernel
theorem dX5_init_33 : decode cX5_init 33 = .ok (.putfield 21, 3) := by decide +kernel
theorem dX5_init_36 : decode cX5_init 36 = .ok (.aload_n 0, 1) := by decide +kernel
theorem dX5_init_37 : decode cX5_init 37 = .ok (.bipush 6, 2) := by decide +kernel
theorem dX5_init_39 : decode cX5_init 39 = .ok (.newarray .int, 2) := by decide +kernel
theorem dX5_init_41 : decode cX5_init 41 = .ok (.putfield 24, 3) := by decide +kernel
theorem dX5_init_44 : decode cX5_init 44 = .ok (.aload_n 0, 1) := by decide +kernel
theorem dX5_init_45 : decode cX5_init 45 = .ok (.bipush 30, 2) := by decide +kernel
theorem dX5_init_47 : decode cX5_init 47 = .ok (.newarray .int, 2) := by decide +kernel
theorem dX5_init_49 : decode cX5_init 49 = .ok (.putfield 27, 3) := by decide +kernel
theorem dX5_init_52 : decode cX5_init 52 = .ok (.aload_n 0, 1) := by decide +kernel
theorem dX5_init_53 : decode cX5_init 53 = .ok (.iconst 0, 1) := by decide +kernel
theorem dX5_init_54 : decode cX5_init 54 = .ok (.putfield 30, 3) := by decide +kernel
theorem dX5_init_57 : decode cX5_init 57 = .ok (.return_, 1) := by decide +kernel
theorem dX5_run_0 : decode cX5_run 0 = .ok (.aload_n 0, 1) := by decide +kernel
theorem dX5_run_1 : decode cX5_run 1 = .ok (.iload_n 2, 1) := by decide +kernel
theorem dX5_run_2 : decode cX5_run 2 = .ok (.putfield 30, 3) := by decide +kernel
theorem dX5_run_5 : decode cX5_run 5 = .ok (.aload_n 0, 1) := by decide +kernel
theorem dX5_run_6 : decode cX5_run 6 = .ok (.aload_n 1, 1) := by decide +kernel
theorem dX5_run_7 : decode cX5_run 7 = .ok (.invokevirtual 34, 3) := by decide +kernel
theorem dX5_run_10 : decode cX5_run 10 = .ok (.iconst 0, 1) := by decide +kernel
theorem dX5_run_11 : decode cX5_run 11 = .ok (.istore_n 3, 1) := by decide +kernel
theorem dX5_run_12 : decode cX5_run 12 = .ok (.iload_n 3, 1) := by decide +kernel
theorem dX5_run_13 : decode cX5_run 13 = .ok (.aload_n 1, 1) := by decide +kernel
theorem dX5_run_14 : decode cX5_run 14 = .ok (.getfield 38, 3) := by decide +kernel
theorem dX5_run_17 : decode cX5_run 17 = .ok (.if_icmp .ge 16, 3) := by decide +kernel
theorem dX5_run_20 : decode cX5_run 20 = .ok (.aload_n 0, 1) := by decide +kernel
theorem dX5_run_21 : decode cX5_run 21 = .ok (.getfield 15, 3) := by decide +kernel
theorem dX5_run_24 : decode cX5_run 24 = .ok (.iload_n 3, 1) := by decide +kernel
theorem dX5_run_25 : decode cX5_run 25 = .ok (.iconst (-1), 1) := by decide +kernel
theorem dX5_run_26 : decode cX5_run 26 = .ok (.iastore, 1) := by decide +kernel
theorem dX5_run_27 : decode cX5_run 27 = .ok (.iinc 3 1, 3) := by decide +kernel
theorem dX5_run_30 : decode cX5_run 30 = .ok (.goto (-18), 3) := by decide +kernel
theorem dX5_run_33 : decode cX5_run 33 = .ok (.iconst 1, 1) := by decide +kernel
theorem dX5_run_34 : decode cX5_run 34 = .ok (.istore_n 3, 1) := by decide +kernel
theorem dX5_run_35 : decode cX5_run 35 = .ok (.iload_n 3, 1) := by decide +kernel
theorem dX5_run_36 : decode cX5_run 36 = .ok (.bipush 60, 2) := by decide +kernel
theorem dX5_run_38 : decode cX5_run 38 = .ok (.if_icmp .ge 24, 3) := by decide +kernel
theorem dX5_run_41 : decode cX5_run 41 = .ok (.aload_n 0, 1) := by decide +kernel
theorem dX5_run_42 : decode cX5_run 42 = .ok (.aload_n 1, 1) := by decide +kernel
theorem dX5_run_43 : decode cX5_run 43 = .ok (.invokevirtual 43, 3) := by decide +kernel
theorem dX5_run_46 : decode cX5_run 46 = .ok (.ifCond .ne 5, 3) := by decide +kernel
theorem dX5_run_49 : decode cX5_run 49 = .ok (.iload_n 3, 1) := by decide +kernel
theorem dX5_run_50 : decode cX5_run 50 = .ok (.ireturn, 1) := by decide +kernel
theorem dX5_run_51 : decode cX5_run 51 = .ok (.aload_n 0, 1) := by decide +kernel
theorem dX5_run_52 : decode cX5_run 52 = .ok (.aload_n 1, 1) := by decide +kernel
theorem dX5_run_53 : decode cX5_run 53 = .ok (.invokevirtual 47, 3) := by decide +kernel
theorem dX5_run_56 : decode cX5_run 56 = .ok (.iinc 3 1, 3) := by decide +kernel
theorem dX5_run_59 : decode cX5_run 59 = .ok (.goto (-24), 3) := by decide +kernel
theorem dX5_run_62 : decode cX5_run 62 = .ok (.aload_n 0, 1) := by decide +kernel
theorem dX5_run_63 : decode cX5_run 63 = .ok (.aload_n 1, 1) := by decide +kernel
theorem dX5_run_64 : decode cX5_run 64 = .ok (.invokevirtual 43, 3) := by decide +kernel
theorem dX5_run_67 : decode cX5_run 67 = .ok (.pop, 1) := by decide +kernel
theorem dX5_run_68 : decode cX5_run 68 = .ok (.bipush 60, 2) := by decide +kernel
theorem dX5_run_70 : decode cX5_run 70 = .ok (.ireturn, 1) := by decide +kernel
theorem dX5_chooseFirstMeans_0 : decode cX5_chooseFirstMeans 0 = .ok (.iconst 0, 1) := by decide +kernel
theorem dX5_chooseFirstMeans_1 : decode cX5_chooseFirstMeans 1 = .ok (.istore_n 2, 1) := by decide +kernel
theorem dX5_chooseFirstMeans_2 : decode cX5_chooseFirstMeans 2 = .ok (.iload_n 2, 1) := by decide +kernel
theorem dX5_chooseFirstMeans_3 : decode cX5_chooseFirstMeans 3 = .ok (.aload_n 1, 1) := by decide +kernel
theorem dX5_chooseFirstMeans_4 : decode cX5_chooseFirstMeans 4 = .ok (.getfield 38, 3) := by decide +kernel
theorem dX5_chooseFirstMeans_7 : decode cX5_chooseFirstMeans 7 = .ok (.if_icmp .ge 17, 3) := by decide +kernel
theorem dX5_chooseFirstMeans_10 : decode cX5_chooseFirstMeans 10 = .ok (.aload_n 0, 1) := by decide +kernel
theorem dX5_chooseFirstMeans_11 : decode cX5_chooseFirstMeans 11 = .ok (.getfield 27, 3) := by decide +kernel
theorem dX5_chooseFirstMeans_14 : decode cX5_chooseFirstMeans 14 = .ok (.iload_n 2, 1) := by decide +kernel
theorem dX5_chooseFirstMeans_15 : decode cX5_chooseFirstMeans 15 = .ok (.ldc 50, 2) := by decide +kernel
theorem dX5_chooseFirstMeans_17 : decode cX5_chooseFirstMeans 17 = .ok (.iastore, 1) := by decide +kernel
theorem dX5_chooseFirstMeans_18 : decode cX5_chooseFirstMeans 18 = .ok (.iinc 2 1, 3) := by decide +kernel
theorem dX5_chooseFirstMeans_21 : decode cX5_chooseFirstMeans 21 = .ok (.goto (-19), 3) := by decide +kernel
theorem dX5_chooseFirstMeans_24 : decode cX5_chooseFirstMeans 24 = .ok (.iconst 0, 1) := by decide +kernel
theorem dX5_chooseFirstMeans_25 : decode cX5_chooseFirstMeans 25 = .ok (.istore_n 2, 1) := by decide +kernel
theorem dX5_chooseFirstMeans_26 : decode cX5_chooseFirstMeans 26 = .ok (.iconst 0, 1) := by decide +kernel
theorem dX5_chooseFirstMeans_27 : decode cX5_chooseFirstMeans 27 = .ok (.istore_n 3, 1) := by decide +kernel
theorem dX5_chooseFirstMeans_28 : decode cX5_chooseFirstMeans 28 = .ok (.iload_n 3, 1) := by decide +kernel
theorem dX5_chooseFirstMeans_29 : decode cX5_chooseFirstMeans 29 = .ok (.aload_n 0, 1) := by decide +kernel
theorem dX5_chooseFirstMeans_30 : decode cX5_chooseFirstMeans 30 = .ok (.getfield 30, 3) := by decide +kernel
theorem dX5_chooseFirstMeans_33 : decode cX5_chooseFirstMeans 33 = .ok (.if_icmp .ge 23, 3) := by decide +kernel
theorem dX5_chooseFirstMeans_36 : decode cX5_chooseFirstMeans 36 = .ok (.aload_n 0, 1) := by decide +kernel
theorem dX5_chooseFirstMeans_37 : decode cX5_chooseFirstMeans 37 = .ok (.aload_n 1, 1) := by decide +kernel
theorem dX5_chooseFirstMeans_38 : decode cX5_chooseFirstMeans 38 = .ok (.iload_n 3, 1) := by decide +kernel
theorem dX5_chooseFirstMeans_39 : decode cX5_chooseFirstMeans 39 = .ok (.iload_n 2, 1) := by decide +kernel
theorem dX5_chooseFirstMeans_40 : decode cX5_chooseFirstMeans 40 = .ok (.invokevirtual 51, 3) := by decide +kernel
theorem dX5_chooseFirstMeans_43 : decode cX5_chooseFirstMeans 43 = .ok (.aload_n 0, 1) := by decide +kernel
theorem dX5_chooseFirstMeans_44 : decode cX5_chooseFirstMeans 44 = .ok (.aload_n 1, 1) := by decide +kernel
theorem dX5_chooseFirstMeans_45 : decode cX5_chooseFirstMeans 45 = .ok (.iload_n 2, 1) := by decide +kernel
theorem dX5_chooseFirstMeans_46 : decode cX5_chooseFirstMeans 46 = .ok (.invokevirtual 55, 3) := by decide +kernel
theorem dX5_chooseFirstMeans_49 : decode cX5_chooseFirstMeans 49 = .ok (.istore_n 2, 1) := by decide +kernel
theorem dX5_chooseFirstMeans_50 : decode cX5_chooseFirstMeans 50 = .ok (.iinc 3 1, 3) := by decide +kernel
theorem dX5_chooseFirstMeans_53 : decode cX5_chooseFirstMeans 53 = .ok (.goto (-25), 3) := by decide +kernel
theorem dX5_chooseFirstMeans_56 : decode cX5_chooseFirstMeans 56 = .ok (.return_, 1) := by decide +kernel
theorem dX5_putFirstMean_0 : decode cX5_putFirstMean 0 = .ok (.aload_n 0, 1) := by decide +kernel
theorem dX5_putFirstMean_1 : decode cX5_putFirstMean 1 = .ok (.getfield 24, 3) := by decide +kernel
theorem dX5_putFirstMean_4 : decode cX5_putFirstMean 4 = .ok (.iload_n 2, 1) := by decide +kernel
theorem dX5_putFirstMean_5 : decode cX5_putFirstMean 5 = .ok (.iconst 1, 1) := by decide +kernel
theorem dX5_putFirstMean_6 : decode cX5_putFirstMean 6 = .ok (.iastore, 1) := by decide +kernel
theorem dX5_putFirstMean_7 : decode cX5_putFirstMean 7 = .ok (.iconst 0, 1) := by decide +kernel
theorem dX5_putFirstMean_8 : decode cX5_putFirstMean 8 = .ok (.istore 4, 2) := by decide +kernel
theorem dX5_putFirstMean_10 : decode cX5_putFirstMean 10 = .ok (.iload 4, 2) := by decide +kernel
theorem dX5_putFirstMean_12 : decode cX5_putFirstMean 12 = .ok (.aload_n 1, 1) := by decide +kernel
theorem dX5_putFirstMean_13 : decode cX5_putFirstMean 13 = .ok (.getfield 59, 3) := by decide +kernel
theorem dX5_putFirstMean_16 : decode cX5_putFirstMean 16 = .ok (.if_icmp .ge 27, 3) := by decide +kernel
theorem dX5_putFirstMean_19 : decode cX5_putFirstMean 19 = .ok (.aload_n 0, 1) := by decide +kernel
theorem dX5_putFirstMean_20 : decode cX5_putFirstMean 20 = .ok (.getfield 21, 3) := by decide +kernel
theorem dX5_putFirstMean_23 : decode cX5_putFirstMean 23 = .ok (.iload_n 2, 1) := by decide +kernel
theorem dX5_putFirstMean_24 : decode cX5_putFirstMean 24 = .ok (.iconst 4, 1) := by decide +kernel
theorem dX5_putFirstMean_25 : decode cX5_putFirstMean 25 = .ok (.imul, 1) := by decide +kernel
theorem dX5_putFirstMean_26 : decode cX5_putFirstMean 26 = .ok (.iload 4, 2) := by decide +kernel
theorem dX5_putFirstMean_28 : decode cX5_putFirstMean 28 = .ok (.iadd, 1) := by decide +kernel
theorem dX5_putFirstMean_29 : decode cX5_putFirstMean 29 = .ok (.aload_n 1, 1) := by decide +kernel
theorem dX5_putFirstMean_30 : decode cX5_putFirstMean 30 = .ok (.iload_n 3, 1) := by decide +kernel
theorem dX5_putFirstMean_31 : decode cX5_putFirstMean 31 = .ok (.iload 4, 2) := by decide +kernel
theorem dX5_putFirstMean_33 : decode cX5_putFirstMean 33 = .ok (.invokevirtual 62, 3) := by decide +kernel
theorem dX5_putFirstMean_36 : decode cX5_putFirstMean 36 = .ok (.iastore, 1) := by decide +kernel
theorem dX5_putFirstMean_37 : decode cX5_putFirstMean 37 = .ok (.iinc 4 1, 3) := by decide +kernel
theorem dX5_putFirstMean_40 : decode cX5_putFirstMean 40 = .ok (.goto (-30), 3) := by decide +kernel
theorem dX5_putFirstMean_43 : decode cX5_putFirstMean 43 = .ok (.return_, 1) := by decide +kernel
theorem dX5_farthestFromChosen_0 : decode cX5_farthestFromChosen 0 = .ok (.iconst 0, 1) := by decide +kernel
theorem dX5_farthestFromChosen_1 : decode cX5_farthestFromChosen 1 = .ok (.istore_n 3, 1) := by decide +kernel
theorem dX5_farthestFromChosen_2 : decode cX5_farthestFromChosen 2 = .ok (.aload_n 0, 1) := by decide +kernel
theorem dX5_farthestFromChosen_3 : decode cX5_farthestFromChosen 3 = .ok (.getfield 27, 3) := by decide +kernel
theorem dX5_farthestFromChosen_6 : decode cX5_farthestFromChosen 6 = .ok (.iload_n 2, 1) := by decide +kernel
theorem dX5_farthestFromChosen_7 : decode cX5_farthestFromChosen 7 = .ok (.iconst (-1), 1) := by decide +kernel
theorem dX5_farthestFromChosen_8 : decode cX5_farthestFromChosen 8 = .ok (.iastore, 1) := by decide +kernel
theorem dX5_farthestFromChosen_9 : decode cX5_farthestFromChosen 9 = .ok (.iconst 0, 1) := by decide +kernel
theorem dX5_farthestFromChosen_10 : decode cX5_farthestFromChosen 10 = .ok (.istore 4, 2) := by decide +kernel
theorem dX5_farthestFromChosen_12 : decode cX5_farthestFromChosen 12 = .ok (.iload 4, 2) := by decide +kernel
theorem dX5_farthestFromChosen_14 : decode cX5_farthestFromChosen 14 = .ok (.aload_n 1, 1) := by decide +kernel
theorem dX5_farthestFromChosen_15 : decode cX5_farthestFromChosen 15 = .ok (.getfield 38, 3) := by decide +kernel
theorem dX5_farthestFromChosen_18 : decode cX5_farthestFromChosen 18 = .ok (.if_icmp .ge 53, 3) := by decide +kernel
theorem dX5_farthestFromChosen_21 : decode cX5_farthestFromChosen 21 = .ok (.aload_n 0, 1) := by decide +kernel
theorem dX5_farthestFromChosen_22 : decode cX5_farthestFromChosen 22 = .ok (.getfield 27, 3) := by decide +kernel
theorem dX5_farthestFromChosen_25 : decode cX5_farthestFromChosen 25 = .ok (.iload 4, 2) := by decide +kernel
theorem dX5_farthestFromChosen_27 : decode cX5_farthestFromChosen 27 = .ok (.aload_n 0, 1) := by decide +kernel
theorem dX5_farthestFromChosen_28 : decode cX5_farthestFromChosen 28 = .ok (.getfield 27, 3) := by decide +kernel
theorem dX5_farthestFromChosen_31 : decode cX5_farthestFromChosen 31 = .ok (.iload 4, 2) := by decide +kernel
theorem dX5_farthestFromChosen_33 : decode cX5_farthestFromChosen 33 = .ok (.iaload, 1) := by decide +kernel
theorem dX5_farthestFromChosen_34 : decode cX5_farthestFromChosen 34 = .ok (.aload_n 1, 1) := by decide +kernel
theorem dX5_farthestFromChosen_35 : decode cX5_farthestFromChosen 35 = .ok (.iconst 0, 1) := by decide +kernel
theorem dX5_farthestFromChosen_36 : decode cX5_farthestFromChosen 36 = .ok (.iload_n 2, 1) := by decide +kernel
theorem dX5_farthestFromChosen_37 : decode cX5_farthestFromChosen 37 = .ok (.iload 4, 2) := by decide +kernel
theorem dX5_farthestFromChosen_39 : decode cX5_farthestFromChosen 39 = .ok (.invokevirtual 66, 3) := by decide +kernel
theorem dX5_farthestFromChosen_42 : decode cX5_farthestFromChosen 42 = .ok (.invokestatic 70, 3) := by decide +kernel
theorem dX5_farthestFromChosen_45 : decode cX5_farthestFromChosen 45 = .ok (.iastore, 1) := by decide +kernel
theorem dX5_farthestFromChosen_46 : decode cX5_farthestFromChosen 46 = .ok (.aload_n 0, 1) := by decide +kernel
theorem dX5_farthestFromChosen_47 : decode cX5_farthestFromChosen 47 = .ok (.getfield 27, 3) := by decide +kernel
theorem dX5_farthestFromChosen_50 : decode cX5_farthestFromChosen 50 = .ok (.iload 4, 2) := by decide +kernel
theorem dX5_farthestFromChosen_52 : decode cX5_farthestFromChosen 52 = .ok (.iaload, 1) := by decide +kernel
theorem dX5_farthestFromChosen_53 : decode cX5_farthestFromChosen 53 = .ok (.aload_n 0, 1) := by decide +kernel
theorem dX5_farthestFromChosen_54 : decode cX5_farthestFromChosen 54 = .ok (.getfield 27, 3) := by decide +kernel
theorem dX5_farthestFromChosen_57 : decode cX5_farthestFromChosen 57 = .ok (.iload_n 3, 1) := by decide +kernel
theorem dX5_farthestFromChosen_58 : decode cX5_farthestFromChosen 58 = .ok (.iaload, 1) := by decide +kernel
theorem dX5_farthestFromChosen_59 : decode cX5_farthestFromChosen 59 = .ok (.if_icmp .le 6, 3) := by decide +kernel
theorem dX5_farthestFromChosen_62 : decode cX5_farthestFromChosen 62 = .ok (.iload 4, 2) := by decide +kernel
theorem dX5_farthestFromChosen_64 : decode cX5_farthestFromChosen 64 = .ok (.istore_n 3, 1) := by decide +kernel
theorem dX5_farthestFromChosen_65 : decode cX5_farthestFromChosen 65 = .ok (.iinc 4 1, 3) := by decide +kernel
theorem dX5_farthestFromChosen_68 : decode cX5_farthestFromChosen 68 = .ok (.goto (-56), 3) := by decide +kernel
theorem dX5_farthestFromChosen_71 : decode cX5_farthestFromChosen 71 = .ok (.iload_n 3, 1) := by decide +kernel
theorem dX5_farthestFromChosen_72 : decode cX5_farthestFromChosen 72 = .ok (.ireturn, 1) := by decide +kernel
theorem dX5_moveRows_0 : decode cX5_moveRows 0 = .ok (.iconst 0, 1) := by decide +kernel
theorem dX5_moveRows_1 : decode cX5_moveRows 1 = .ok (.istore_n 2, 1) := by decide +kernel
theorem dX5_moveRows_2 : decode cX5_moveRows 2 = .ok (.iload_n 2, 1) := by decide +kernel
theorem dX5_moveRows_3 : decode cX5_moveRows 3 = .ok (.aload_n 0, 1) := by decide +kernel
theorem dX5_moveRows_4 : decode cX5_moveRows 4 = .ok (.getfield 30, 3) := by decide +kernel
theorem dX5_moveRows_7 : decode cX5_moveRows 7 = .ok (.if_icmp .ge 16, 3) := by decide +kernel
theorem dX5_moveRows_10 : decode cX5_moveRows 10 = .ok (.aload_n 0, 1) := by decide +kernel
theorem dX5_moveRows_11 : decode cX5_moveRows 11 = .ok (.getfield 18, 3) := by decide +kernel
theorem dX5_moveRows_14 : decode cX5_moveRows 14 = .ok (.iload_n 2, 1) := by decide +kernel
theorem dX5_moveRows_15 : decode cX5_moveRows 15 = .ok (.iconst 0, 1) := by decide +kernel
theorem dX5_moveRows_16 : decode cX5_moveRows 16 = .ok (.iastore, 1) := by decide +kernel
theorem dX5_moveRows_17 : decode cX5_moveRows 17 = .ok (.iinc 2 1, 3) := by decide +kernel
theorem dX5_moveRows_20 : decode cX5_moveRows 20 = .ok (.goto (-18), 3) := by decide +kernel
theorem dX5_moveRows_23 : decode cX5_moveRows 23 = .ok (.iconst 0, 1) := by decide +kernel
theorem dX5_moveRows_24 : decode cX5_moveRows 24 = .ok (.istore_n 2, 1) := by decide +kernel
theorem dX5_moveRows_25 : decode cX5_moveRows 25 = .ok (.iload_n 2, 1) := by decide +kernel
theorem dX5_moveRows_26 : decode cX5_moveRows 26 = .ok (.aload_n 1, 1) := by decide +kernel
theorem dX5_moveRows_27 : decode cX5_moveRows 27 = .ok (.getfield 38, 3) := by decide +kernel
theorem dX5_moveRows_30 : decode cX5_moveRows 30 = .ok (.if_icmp .ge 36, 3) := by decide +kernel
theorem dX5_moveRows_33 : decode cX5_moveRows 33 = .ok (.aload_n 0, 1) := by decide +kernel
theorem dX5_moveRows_34 : decode cX5_moveRows 34 = .ok (.getfield 9, 3) := by decide +kernel
theorem dX5_moveRows_37 : decode cX5_moveRows 37 = .ok (.iload_n 2, 1) := by decide +kernel
theorem dX5_moveRows_38 : decode cX5_moveRows 38 = .ok (.aload_n 0, 1) := by decide +kernel
theorem dX5_moveRows_39 : decode cX5_moveRows 39 = .ok (.aload_n 1, 1) := by decide +kernel
theorem dX5_moveRows_40 : decode cX5_moveRows 40 = .ok (.iload_n 2, 1) := by decide +kernel
theorem dX5_moveRows_41 : decode cX5_moveRows 41 = .ok (.invokevirtual 75, 3) := by decide +kernel
theorem dX5_moveRows_44 : decode cX5_moveRows 44 = .ok (.iastore, 1) := by decide +kernel
theorem dX5_moveRows_45 : decode cX5_moveRows 45 = .ok (.aload_n 0, 1) := by decide +kernel
theorem dX5_moveRows_46 : decode cX5_moveRows 46 = .ok (.getfield 18, 3) := by decide +kernel
theorem dX5_moveRows_49 : decode cX5_moveRows 49 = .ok (.aload_n 0, 1) := by decide +kernel
theorem dX5_moveRows_50 : decode cX5_moveRows 50 = .ok (.getfield 9, 3) := by decide +kernel
theorem dX5_moveRows_53 : decode cX5_moveRows 53 = .ok (.iload_n 2, 1) := by decide +kernel
theorem dX5_moveRows_54 : decode cX5_moveRows 54 = .ok (.iaload, 1) := by decide +kernel
theorem dX5_moveRows_55 : decode cX5_moveRows 55 = .ok (.dup2, 1) := by decide +kernel
theorem dX5_moveRows_56 : decode cX5_moveRows 56 = .ok (.iaload, 1) := by decide +kernel
theorem dX5_moveRows_57 : decode cX5_moveRows 57 = .ok (.iconst 1, 1) := by decide +kernel
theorem dX5_moveRows_58 : decode cX5_moveRows 58 = .ok (.iadd, 1) := by decide +kernel
theorem dX5_moveRows_59 : decode cX5_moveRows 59 = .ok (.iastore, 1) := by decide +kernel
theorem dX5_moveRows_60 : decode cX5_moveRows 60 = .ok (.iinc 2 1, 3) := by decide +kernel
theorem dX5_moveRows_63 : decode cX5_moveRows 63 = .ok (.goto (-38), 3) := by decide +kernel
theorem dX5_moveRows_66 : decode cX5_moveRows 66 = .ok (.iconst 0, 1) := by decide +kernel
theorem dX5_moveRows_67 : decode cX5_moveRows 67 = .ok (.istore_n 2, 1) := by decide +kernel
theorem dX5_moveRows_68 : decode cX5_moveRows 68 = .ok (.iload_n 2, 1) := by decide +kernel
theorem dX5_moveRows_69 : decode cX5_moveRows 69 = .ok (.aload_n 0, 1) := by decide +kernel
theorem dX5_moveRows_70 : decode cX5_moveRows 70 = .ok (.getfield 30, 3) := by decide +kernel
theorem dX5_moveRows_73 : decode cX5_moveRows 73 = .ok (.if_icmp .ge 24, 3) := by decide +kernel
theorem dX5_moveRows_76 : decode cX5_moveRows 76 = .ok (.aload_n 0, 1) := by decide +kernel
theorem dX5_moveRows_77 : decode cX5_moveRows 77 = .ok (.getfield 18, 3) := by decide +kernel
theorem dX5_moveRows_80 : decode cX5_moveRows 80 = .ok (.iload_n 2, 1) := by decide +kernel
theorem dX5_moveRows_81 : decode cX5_moveRows 81 = .ok (.iaload, 1) := by decide +kernel
theorem dX5_moveRows_82 : decode cX5_moveRows 82 = .ok (.ifCond .ne 9, 3) := by decide +kernel
theorem dX5_moveRows_85 : decode cX5_moveRows 85 = .ok (.aload_n 0, 1) := by decide +kernel
theorem dX5_moveRows_86 : decode cX5_moveRows 86 = .ok (.aload_n 1, 1) := by decide +kernel
theorem dX5_moveRows_87 : decode cX5_moveRows 87 = .ok (.iload_n 2, 1) := by decide +kernel
theorem dX5_moveRows_88 : decode cX5_moveRows 88 = .ok (.invokevirtual 78, 3) := by decide +kernel
theorem dX5_moveRows_91 : decode cX5_moveRows 91 = .ok (.iinc 2 1, 3) := by decide +kernel
theorem dX5_moveRows_94 : decode cX5_moveRows 94 = .ok (.goto (-26), 3) := by decide +kernel
theorem dX5_moveRows_97 : decode cX5_moveRows 97 = .ok (.aload_n 0, 1) := by decide +kernel
theorem dX5_moveRows_98 : decode cX5_moveRows 98 = .ok (.aload_n 1, 1) := by decide +kernel
theorem dX5_moveRows_99 : decode cX5_moveRows 99 = .ok (.getfield 38, 3) := by decide +kernel
theorem dX5_moveRows_102 : decode cX5_moveRows 102 = .ok (.invokevirtual 82, 3) := by decide +kernel
theorem dX5_moveRows_105 : decode cX5_moveRows 105 = .ok (.ireturn, 1) := by decide +kernel
theorem dX5_nearestMean_0 : decode cX5_nearestMean 0 = .ok (.iconst 0, 1) := by decide +kernel
theorem dX5_nearestMean_1 : decode cX5_nearestMean 1 = .ok (.istore_n 3, 1) := by decide +kernel
theorem dX5_nearestMean_2 : decode cX5_nearestMean 2 = .ok (.aload_n 0, 1) := by decide +kernel
theorem dX5_nearestMean_3 : decode cX5_nearestMean 3 = .ok (.aload_n 1, 1) := by decide +kernel
theorem dX5_nearestMean_4 : decode cX5_nearestMean 4 = .ok (.iload_n 2, 1) := by decide +kernel
theorem dX5_nearestMean_5 : decode cX5_nearestMean 5 = .ok (.iconst 0, 1) := by decide +kernel
theorem dX5_nearestMean_6 : decode cX5_nearestMean 6 = .ok (.invokevirtual 86, 3) := by decide +kernel
theorem dX5_nearestMean_9 : decode cX5_nearestMean 9 = .ok (.lstore 4, 2) := by decide +kernel
theorem dX5_nearestMean_11 : decode cX5_nearestMean 11 = .ok (.iconst 1, 1) := by decide +kernel
theorem dX5_nearestMean_12 : decode cX5_nearestMean 12 = .ok (.istore 6, 2) := by decide +kernel
theorem dX5_nearestMean_14 : decode cX5_nearestMean 14 = .ok (.iload 6, 2) := by decide +kernel
theorem dX5_nearestMean_16 : decode cX5_nearestMean 16 = .ok (.aload_n 0, 1) := by decide +kernel
theorem dX5_nearestMean_17 : decode cX5_nearestMean 17 = .ok (.getfield 30, 3) := by decide +kernel
theorem dX5_nearestMean_20 : decode cX5_nearestMean 20 = .ok (.if_icmp .ge 47, 3) := by decide +kernel
theorem dX5_nearestMean_23 : decode cX5_nearestMean 23 = .ok (.aload_n 0, 1) := by decide +kernel
theorem dX5_nearestMean_24 : decode cX5_nearestMean 24 = .ok (.aload_n 1, 1) := by decide +kernel
theorem dX5_nearestMean_25 : decode cX5_nearestMean 25 = .ok (.iload_n 2, 1) := by decide +kernel
theorem dX5_nearestMean_26 : decode cX5_nearestMean 26 = .ok (.iload 6, 2) := by decide +kernel
theorem dX5_nearestMean_28 : decode cX5_nearestMean 28 = .ok (.invokevirtual 86, 3) := by decide +kernel
theorem dX5_nearestMean_31 : decode cX5_nearestMean 31 = .ok (.lstore 7, 2) := by decide +kernel
theorem dX5_nearestMean_33 : decode cX5_nearestMean 33 = .ok (.lload 7, 2) := by decide +kernel
theorem dX5_nearestMean_35 : decode cX5_nearestMean 35 = .ok (.aload_n 0, 1) := by decide +kernel
theorem dX5_nearestMean_36 : decode cX5_nearestMean 36 = .ok (.iload 6, 2) := by decide +kernel
theorem dX5_nearestMean_38 : decode cX5_nearestMean 38 = .ok (.invokevirtual 90, 3) := by decide +kernel
theorem dX5_nearestMean_41 : decode cX5_nearestMean 41 = .ok (.lload 4, 2) := by decide +kernel
theorem dX5_nearestMean_43 : decode cX5_nearestMean 43 = .ok (.aload_n 0, 1) := by decide +kernel
theorem dX5_nearestMean_44 : decode cX5_nearestMean 44 = .ok (.iload_n 3, 1) := by decide +kernel
theorem dX5_nearestMean_45 : decode cX5_nearestMean 45 = .ok (.invokevirtual 90, 3) := by decide +kernel
theorem dX5_nearestMean_48 : decode cX5_nearestMean 48 = .ok (.invokestatic 94, 3) := by decide +kernel
theorem dX5_nearestMean_51 : decode cX5_nearestMean 51 = .ok (.ifCond .eq 10, 3) := by decide +kernel
theorem dX5_nearestMean_54 : decode cX5_nearestMean 54 = .ok (.iload 6, 2) := by decide +kernel
theorem dX5_nearestMean_56 : decode cX5_nearestMean 56 = .ok (.istore_n 3, 1) := by decide +kernel
theorem dX5_nearestMean_57 : decode cX5_nearestMean 57 = .ok (.lload 7, 2) := by decide +kernel
theorem dX5_nearestMean_59 : decode cX5_nearestMean 59 = .ok (.lstore 4, 2) := by decide +kernel
theorem dX5_nearestMean_61 : decode cX5_nearestMean 61 = .ok (.iinc 6 1, 3) := by decide +kernel
theorem dX5_nearestMean_64 : decode cX5_nearestMean 64 = .ok (.goto (-50), 3) := by decide +kernel
theorem dX5_nearestMean_67 : decode cX5_nearestMean 67 = .ok (.iload_n 3, 1) := by decide +kernel
theorem dX5_nearestMean_68 : decode cX5_nearestMean 68 = .ok (.ireturn, 1) := by decide +kernel
theorem dX5_takeFarthest_0 : decode cX5_takeFarthest 0 = .ok (.iconst (-1), 1) := by decide +kernel
theorem dX5_takeFarthest_1 : decode cX5_takeFarthest 1 = .ok (.istore_n 3, 1) := by decide +kernel
theorem dX5_takeFarthest_2 : decode cX5_takeFarthest 2 = .ok (.lconst 0, 1) := by decide +kernel
theorem dX5_takeFarthest_3 : decode cX5_takeFarthest 3 = .ok (.lstore 4, 2) := by decide +kernel
theorem dX5_takeFarthest_5 : decode cX5_takeFarthest 5 = .ok (.lconst 1, 1) := by decide +kernel
theorem dX5_takeFarthest_6 : decode cX5_takeFarthest 6 = .ok (.lstore 6, 2) := by decide +kernel
theorem dX5_takeFarthest_8 : decode cX5_takeFarthest 8 = .ok (.iconst 0, 1) := by decide +kernel
theorem dX5_takeFarthest_9 : decode cX5_takeFarthest 9 = .ok (.istore 8, 2) := by decide +kernel
theorem dX5_takeFarthest_11 : decode cX5_takeFarthest 11 = .ok (.iload 8, 2) := by decide +kernel
theorem dX5_takeFarthest_13 : decode cX5_takeFarthest 13 = .ok (.aload_n 1, 1) := by decide +kernel
theorem dX5_takeFarthest_14 : decode cX5_takeFarthest 14 = .ok (.getfield 38, 3) := by decide +kernel
theorem dX5_takeFarthest_17 : decode cX5_takeFarthest 17 = .ok (.if_icmp .ge 78, 3) := by decide +kernel
theorem dX5_takeFarthest_20 : decode cX5_takeFarthest 20 = .ok (.aload_n 0, 1) := by decide +kernel
theorem dX5_takeFarthest_21 : decode cX5_takeFarthest 21 = .ok (.getfield 9, 3) := by decide +kernel
theorem dX5_takeFarthest_24 : decode cX5_takeFarthest 24 = .ok (.iload 8, 2) := by decide +kernel
theorem dX5_takeFarthest_26 : decode cX5_takeFarthest 26 = .ok (.iaload, 1) := by decide +kernel
theorem dX5_takeFarthest_27 : decode cX5_takeFarthest 27 = .ok (.istore 9, 2) := by decide +kernel
theorem dX5_takeFarthest_29 : decode cX5_takeFarthest 29 = .ok (.aload_n 0, 1) := by decide +kernel
theorem dX5_takeFarthest_30 : decode cX5_takeFarthest 30 = .ok (.getfield 18, 3) := by decide +kernel
theorem dX5_takeFarthest_33 : decode cX5_takeFarthest 33 = .ok (.iload 9, 2) := by decide +kernel
theorem dX5_takeFarthest_35 : decode cX5_takeFarthest 35 = .ok (.iaload, 1) := by decide +kernel
theorem dX5_takeFarthest_36 : decode cX5_takeFarthest 36 = .ok (.iconst 2, 1) := by decide +kernel
theorem dX5_takeFarthest_37 : decode cX5_takeFarthest 37 = .ok (.if_icmp .lt 52, 3) := by decide +kernel
theorem dX5_takeFarthest_40 : decode cX5_takeFarthest 40 = .ok (.aload_n 0, 1) := by decide +kernel
theorem dX5_takeFarthest_41 : decode cX5_takeFarthest 41 = .ok (.aload_n 1, 1) := by decide +kernel
theorem dX5_takeFarthest_42 : decode cX5_takeFarthest 42 = .ok (.iload 8, 2) := by decide +kernel
theorem dX5_takeFarthest_44 : decode cX5_takeFarthest 44 = .ok (.iload 9, 2) := by decide +kernel
theorem dX5_takeFarthest_46 : decode cX5_takeFarthest 46 = .ok (.invokevirtual 86, 3) := by decide +kernel
theorem dX5_takeFarthest_49 : decode cX5_takeFarthest 49 = .ok (.lstore 10, 2) := by decide +kernel
theorem dX5_takeFarthest_51 : decode cX5_takeFarthest 51 = .ok (.iload_n 3, 1) := by decide +kernel
theorem dX5_takeFarthest_52 : decode cX5_takeFarthest 52 = .ok (.iconst (-1), 1) := by decide +kernel
theorem dX5_takeFarthest_53 : decode cX5_takeFarthest 53 = .ok (.if_icmp .eq 21, 3) := by decide +kernel
theorem dX5_takeFarthest_56 : decode cX5_takeFarthest 56 = .ok (.lload 4, 2) := by decide +kernel
theorem dX5_takeFarthest_58 : decode cX5_takeFarthest 58 = .ok (.lload 6, 2) := by decide +kernel
theorem dX5_takeFarthest_60 : decode cX5_takeFarthest 60 = .ok (.lload 10, 2) := by decide +kernel
theorem dX5_takeFarthest_62 : decode cX5_takeFarthest 62 = .ok (.aload_n 0, 1) := by decide +kernel
theorem dX5_takeFarthest_63 : decode cX5_takeFarthest 63 = .ok (.iload 9, 2) := by decide +kernel
theorem dX5_takeFarthest_65 : decode cX5_takeFarthest 65 = .ok (.invokevirtual 90, 3) := by decide +kernel
theorem dX5_takeFarthest_68 : decode cX5_takeFarthest 68 = .ok (.invokestatic 94, 3) := by decide +kernel
theorem dX5_takeFarthest_71 : decode cX5_takeFarthest 71 = .ok (.ifCond .eq 18, 3) := by decide +kernel
theorem dX5_takeFarthest_74 : decode cX5_takeFarthest 74 = .ok (.iload 8, 2) := by decide +kernel
theorem dX5_takeFarthest_76 : decode cX5_takeFarthest 76 = .ok (.istore_n 3, 1) := by decide +kernel
theorem dX5_takeFarthest_77 : decode cX5_takeFarthest 77 = .ok (.lload 10, 2) := by decide +kernel
theorem dX5_takeFarthest_79 : decode cX5_takeFarthest 79 = .ok (.lstore 4, 2) := by decide +kernel
theorem dX5_takeFarthest_81 : decode cX5_takeFarthest 81 = .ok (.aload_n 0, 1) := by decide +kernel
theorem dX5_takeFarthest_82 : decode cX5_takeFarthest 82 = .ok (.iload 9, 2) := by decide +kernel
theorem dX5_takeFarthest_84 : decode cX5_takeFarthest 84 = .ok (.invokevirtual 90, 3) := by decide +kernel
theorem dX5_takeFarthest_87 : decode cX5_takeFarthest 87 = .ok (.lstore 6, 2) := by decide +kernel
theorem dX5_takeFarthest_89 : decode cX5_takeFarthest 89 = .ok (.iinc 8 1, 3) := by decide +kernel
theorem dX5_takeFarthest_92 : decode cX5_takeFarthest 92 = .ok (.goto (-81), 3) := by decide +kernel
theorem dX5_takeFarthest_95 : decode cX5_takeFarthest 95 = .ok (.iload_n 3, 1) := by decide +kernel
theorem dX5_takeFarthest_96 : decode cX5_takeFarthest 96 = .ok (.iconst (-1), 1) := by decide +kernel
theorem dX5_takeFarthest_97 : decode cX5_takeFarthest 97 = .ok (.if_icmp .eq 35, 3) := by decide +kernel
theorem dX5_takeFarthest_100 : decode cX5_takeFarthest 100 = .ok (.aload_n 0, 1) := by decide +kernel
theorem dX5_takeFarthest_101 : decode cX5_takeFarthest 101 = .ok (.getfield 18, 3) := by decide +kernel
theorem dX5_takeFarthest_104 : decode cX5_takeFarthest 104 = .ok (.aload_n 0, 1) := by decide +kernel
theorem dX5_takeFarthest_105 : decode cX5_takeFarthest 105 = .ok (.getfield 9, 3) := by decide +kernel
theorem dX5_takeFarthest_108 : decode cX5_takeFarthest 108 = .ok (.iload_n 3, 1) := by decide +kernel
theorem dX5_takeFarthest_109 : decode cX5_takeFarthest 109 = .ok (.iaload, 1) := by decide +kernel
theorem dX5_takeFarthest_110 : decode cX5_takeFarthest 110 = .ok (.dup2, 1) := by decide +kernel
theorem dX5_takeFarthest_111 : decode cX5_takeFarthest 111 = .ok (.iaload, 1) := by decide +kernel
theorem dX5_takeFarthest_112 : decode cX5_takeFarthest 112 = .ok (.iconst 1, 1) := by decide +kernel
theorem dX5_takeFarthest_113 : decode cX5_takeFarthest 113 = .ok (.isub, 1) := by decide +kernel
theorem dX5_takeFarthest_114 : decode cX5_takeFarthest 114 = .ok (.iastore, 1) := by decide +kernel
theorem dX5_takeFarthest_115 : decode cX5_takeFarthest 115 = .ok (.aload_n 0, 1) := by decide +kernel
theorem dX5_takeFarthest_116 : decode cX5_takeFarthest 116 = .ok (.getfield 9, 3) := by decide +kernel
theorem dX5_takeFarthest_119 : decode cX5_takeFarthest 119 = .ok (.iload_n 3, 1) := by decide +kernel
theorem dX5_takeFarthest_120 : decode cX5_takeFarthest 120 = .ok (.iload_n 2, 1) := by decide +kernel
theorem dX5_takeFarthest_121 : decode cX5_takeFarthest 121 = .ok (.iastore, 1) := by decide +kernel
theorem dX5_takeFarthest_122 : decode cX5_takeFarthest 122 = .ok (.aload_n 0, 1) := by decide +kernel
theorem dX5_takeFarthest_123 : decode cX5_takeFarthest 123 = .ok (.getfield 18, 3) := by decide +kernel
theorem dX5_takeFarthest_126 : decode cX5_takeFarthest 126 = .ok (.iload_n 2, 1) := by decide +kernel
theorem dX5_takeFarthest_127 : decode cX5_takeFarthest 127 = .ok (.dup2, 1) := by decide +kernel
theorem dX5_takeFarthest_128 : decode cX5_takeFarthest 128 = .ok (.iaload, 1) := by decide +kernel
theorem dX5_takeFarthest_129 : decode cX5_takeFarthest 129 = .ok (.iconst 1, 1) := by decide +kernel
theorem dX5_takeFarthest_130 : decode cX5_takeFarthest 130 = .ok (.iadd, 1) := by decide +kernel
theorem dX5_takeFarthest_131 : decode cX5_takeFarthest 131 = .ok (.iastore, 1) := by decide +kernel
theorem dX5_takeFarthest_132 : decode cX5_takeFarthest 132 = .ok (.return_, 1) := by decide +kernel
theorem dX5_noteMoves_0 : decode cX5_noteMoves 0 = .ok (.iconst 0, 1) := by decide +kernel
theorem dX5_noteMoves_1 : decode cX5_noteMoves 1 = .ok (.istore_n 2, 1) := by decide +kernel
theorem dX5_noteMoves_2 : decode cX5_noteMoves 2 = .ok (.iconst 0, 1) := by decide +kernel
theorem dX5_noteMoves_3 : decode cX5_noteMoves 3 = .ok (.istore_n 3, 1) := by decide +kernel
theorem dX5_noteMoves_4 : decode cX5_noteMoves 4 = .ok (.iload_n 3, 1) := by decide +kernel
theorem dX5_noteMoves_5 : decode cX5_noteMoves 5 = .ok (.iload_n 1, 1) := by decide +kernel
theorem dX5_noteMoves_6 : decode cX5_noteMoves 6 = .ok (.if_icmp .ge 38, 3) := by decide +kernel
theorem dX5_noteMoves_9 : decode cX5_noteMoves 9 = .ok (.aload_n 0, 1) := by decide +kernel
theorem dX5_noteMoves_10 : decode cX5_noteMoves 10 = .ok (.getfield 9, 3) := by decide +kernel
theorem dX5_noteMoves_13 : decode cX5_noteMoves 13 = .ok (.iload_n 3, 1) := by decide +kernel
theorem dX5_noteMoves_14 : decode cX5_noteMoves 14 = .ok (.iaload, 1) := by decide +kernel
theorem dX5_noteMoves_15 : decode cX5_noteMoves 15 = .ok (.aload_n 0, 1) := by decide +kernel
theorem dX5_noteMoves_16 : decode cX5_noteMoves 16 = .ok (.getfield 15, 3) := by decide +kernel
theorem dX5_noteMoves_19 : decode cX5_noteMoves 19 = .ok (.iload_n 3, 1) := by decide +kernel
theorem dX5_noteMoves_20 : decode cX5_noteMoves 20 = .ok (.iaload, 1) := by decide +kernel
theorem dX5_noteMoves_21 : decode cX5_noteMoves 21 = .ok (.if_icmp .eq 5, 3) := by decide +kernel
theorem dX5_noteMoves_24 : decode cX5_noteMoves 24 = .ok (.iconst 1, 1) := by decide +kernel
theorem dX5_noteMoves_25 : decode cX5_noteMoves 25 = .ok (.istore_n 2, 1) := by decide +kernel
theorem dX5_noteMoves_26 : decode cX5_noteMoves 26 = .ok (.aload_n 0, 1) := by decide +kernel
theorem dX5_noteMoves_27 : decode cX5_noteMoves 27 = .ok (.getfield 15, 3) := by decide +kernel
theorem dX5_noteMoves_30 : decode cX5_noteMoves 30 = .ok (.iload_n 3, 1) := by decide +kernel
theorem dX5_noteMoves_31 : decode cX5_noteMoves 31 = .ok (.aload_n 0, 1) := by decide +kernel
theorem dX5_noteMoves_32 : decode cX5_noteMoves 32 = .ok (.getfield 9, 3) := by decide +kernel
theorem dX5_noteMoves_35 : decode cX5_noteMoves 35 = .ok (.iload_n 3, 1) := by decide +kernel
theorem dX5_noteMoves_36 : decode cX5_noteMoves 36 = .ok (.iaload, 1) := by decide +kernel
theorem dX5_noteMoves_37 : decode cX5_noteMoves 37 = .ok (.iastore, 1) := by decide +kernel
theorem dX5_noteMoves_38 : decode cX5_noteMoves 38 = .ok (.iinc 3 1, 3) := by decide +kernel
theorem dX5_noteMoves_41 : decode cX5_noteMoves 41 = .ok (.goto (-37), 3) := by decide +kernel
theorem dX5_noteMoves_44 : decode cX5_noteMoves 44 = .ok (.iload_n 2, 1) := by decide +kernel
theorem dX5_noteMoves_45 : decode cX5_noteMoves 45 = .ok (.ireturn, 1) := by decide +kernel
theorem dX5_remakeMeans_0 : decode cX5_remakeMeans 0 = .ok (.iconst 0, 1) := by decide +kernel
theorem dX5_remakeMeans_1 : decode cX5_remakeMeans 1 = .ok (.istore_n 2, 1) := by decide +kernel
theorem dX5_remakeMeans_2 : decode cX5_remakeMeans 2 = .ok (.iload_n 2, 1) := by decide +kernel
theorem dX5_remakeMeans_3 : decode cX5_remakeMeans 3 = .ok (.aload_n 0, 1) := by decide +kernel
theorem dX5_remakeMeans_4 : decode cX5_remakeMeans 4 = .ok (.getfield 30, 3) := by decide +kernel
theorem dX5_remakeMeans_7 : decode cX5_remakeMeans 7 = .ok (.if_icmp .ge 48, 3) := by decide +kernel
theorem dX5_remakeMeans_10 : decode cX5_remakeMeans 10 = .ok (.aload_n 0, 1) := by decide +kernel
theorem dX5_remakeMeans_11 : decode cX5_remakeMeans 11 = .ok (.getfield 24, 3) := by decide +kernel
theorem dX5_remakeMeans_14 : decode cX5_remakeMeans 14 = .ok (.iload_n 2, 1) := by decide +kernel
theorem dX5_remakeMeans_15 : decode cX5_remakeMeans 15 = .ok (.aload_n 0, 1) := by decide +kernel
theorem dX5_remakeMeans_16 : decode cX5_remakeMeans 16 = .ok (.getfield 18, 3) := by decide +kernel
theorem dX5_remakeMeans_19 : decode cX5_remakeMeans 19 = .ok (.iload_n 2, 1) := by decide +kernel
theorem dX5_remakeMeans_20 : decode cX5_remakeMeans 20 = .ok (.iaload, 1) := by decide +kernel
theorem dX5_remakeMeans_21 : decode cX5_remakeMeans 21 = .ok (.iastore, 1) := by decide +kernel
theorem dX5_remakeMeans_22 : decode cX5_remakeMeans 22 = .ok (.iconst 0, 1) := by decide +kernel
theorem dX5_remakeMeans_23 : decode cX5_remakeMeans 23 = .ok (.istore_n 3, 1) := by decide +kernel
theorem dX5_remakeMeans_24 : decode cX5_remakeMeans 24 = .ok (.iload_n 3, 1) := by decide +kernel
theorem dX5_remakeMeans_25 : decode cX5_remakeMeans 25 = .ok (.aload_n 1, 1) := by decide +kernel
theorem dX5_remakeMeans_26 : decode cX5_remakeMeans 26 = .ok (.getfield 59, 3) := by decide +kernel
theorem dX5_remakeMeans_29 : decode cX5_remakeMeans 29 = .ok (.if_icmp .ge 20, 3) := by decide +kernel
theorem dX5_remakeMeans_32 : decode cX5_remakeMeans 32 = .ok (.aload_n 0, 1) := by decide +kernel
theorem dX5_remakeMeans_33 : decode cX5_remakeMeans 33 = .ok (.getfield 21, 3) := by decide +kernel
theorem dX5_remakeMeans_36 : decode cX5_remakeMeans 36 = .ok (.iload_n 2, 1) := by decide +kernel
theorem dX5_remakeMeans_37 : decode cX5_remakeMeans 37 = .ok (.iconst 4, 1) := by decide +kernel
theorem dX5_remakeMeans_38 : decode cX5_remakeMeans 38 = .ok (.imul, 1) := by decide +kernel
theorem dX5_remakeMeans_39 : decode cX5_remakeMeans 39 = .ok (.iload_n 3, 1) := by decide +kernel
theorem dX5_remakeMeans_40 : decode cX5_remakeMeans 40 = .ok (.iadd, 1) := by decide +kernel
theorem dX5_remakeMeans_41 : decode cX5_remakeMeans 41 = .ok (.iconst 0, 1) := by decide +kernel
theorem dX5_remakeMeans_42 : decode cX5_remakeMeans 42 = .ok (.iastore, 1) := by decide +kernel
theorem dX5_remakeMeans_43 : decode cX5_remakeMeans 43 = .ok (.iinc 3 1, 3) := by decide +kernel
theorem dX5_remakeMeans_46 : decode cX5_remakeMeans 46 = .ok (.goto (-22), 3) := by decide +kernel
theorem dX5_remakeMeans_49 : decode cX5_remakeMeans 49 = .ok (.iinc 2 1, 3) := by decide +kernel
theorem dX5_remakeMeans_52 : decode cX5_remakeMeans 52 = .ok (.goto (-50), 3) := by decide +kernel
theorem dX5_remakeMeans_55 : decode cX5_remakeMeans 55 = .ok (.iconst 0, 1) := by decide +kernel
theorem dX5_remakeMeans_56 : decode cX5_remakeMeans 56 = .ok (.istore_n 2, 1) := by decide +kernel
theorem dX5_remakeMeans_57 : decode cX5_remakeMeans 57 = .ok (.iload_n 2, 1) := by decide +kernel
theorem dX5_remakeMeans_58 : decode cX5_remakeMeans 58 = .ok (.aload_n 1, 1) := by decide +kernel
theorem dX5_remakeMeans_59 : decode cX5_remakeMeans 59 = .ok (.getfield 38, 3) := by decide +kernel
theorem dX5_remakeMeans_62 : decode cX5_remakeMeans 62 = .ok (.if_icmp .ge 49, 3) := by decide +kernel
theorem dX5_remakeMeans_65 : decode cX5_remakeMeans 65 = .ok (.iconst 0, 1) := by decide +kernel
theorem dX5_remakeMeans_66 : decode cX5_remakeMeans 66 = .ok (.istore_n 3, 1) := by decide +kernel
theorem dX5_remakeMeans_67 : decode cX5_remakeMeans 67 = .ok (.iload_n 3, 1) := by decide +kernel
theorem dX5_remakeMeans_68 : decode cX5_remakeMeans 68 = .ok (.aload_n 1, 1) := by decide +kernel
theorem dX5_remakeMeans_69 : decode cX5_remakeMeans 69 = .ok (.getfield 59, 3) := by decide +kernel
theorem dX5_remakeMeans_72 : decode cX5_remakeMeans 72 = .ok (.if_icmp .ge 33, 3) := by decide +kernel
theorem dX5_remakeMeans_75 : decode cX5_remakeMeans 75 = .ok (.aload_n 0, 1) := by decide +kernel
theorem dX5_remakeMeans_76 : decode cX5_remakeMeans 76 = .ok (.getfield 21, 3) := by decide +kernel
theorem dX5_remakeMeans_79 : decode cX5_remakeMeans 79 = .ok (.aload_n 0, 1) := by decide +kernel
theorem dX5_remakeMeans_80 : decode cX5_remakeMeans 80 = .ok (.getfield 9, 3) := by decide +kernel
theorem dX5_remakeMeans_83 : decode cX5_remakeMeans 83 = .ok (.iload_n 2, 1) := by decide +kernel
theorem dX5_remakeMeans_84 : decode cX5_remakeMeans 84 = .ok (.iaload, 1) := by decide +kernel
theorem dX5_remakeMeans_85 : decode cX5_remakeMeans 85 = .ok (.iconst 4, 1) := by decide +kernel
theorem dX5_remakeMeans_86 : decode cX5_remakeMeans 86 = .ok (.imul, 1) := by decide +kernel
theorem dX5_remakeMeans_87 : decode cX5_remakeMeans 87 = .ok (.iload_n 3, 1) := by decide +kernel
theorem dX5_remakeMeans_88 : decode cX5_remakeMeans 88 = .ok (.iadd, 1) := by decide +kernel
theorem dX5_remakeMeans_89 : decode cX5_remakeMeans 89 = .ok (.dup2, 1) := by decide +kernel
theorem dX5_remakeMeans_90 : decode cX5_remakeMeans 90 = .ok (.iaload, 1) := by decide +kernel
theorem dX5_remakeMeans_91 : decode cX5_remakeMeans 91 = .ok (.aload_n 1, 1) := by decide +kernel
theorem dX5_remakeMeans_92 : decode cX5_remakeMeans 92 = .ok (.iload_n 2, 1) := by decide +kernel
theorem dX5_remakeMeans_93 : decode cX5_remakeMeans 93 = .ok (.iload_n 3, 1) := by decide +kernel
theorem dX5_remakeMeans_94 : decode cX5_remakeMeans 94 = .ok (.invokevirtual 62, 3) := by decide +kernel
theorem dX5_remakeMeans_97 : decode cX5_remakeMeans 97 = .ok (.iadd, 1) := by decide +kernel
theorem dX5_remakeMeans_98 : decode cX5_remakeMeans 98 = .ok (.iastore, 1) := by decide +kernel
theorem dX5_remakeMeans_99 : decode cX5_remakeMeans 99 = .ok (.iinc 3 1, 3) := by decide +kernel
theorem dX5_remakeMeans_102 : decode cX5_remakeMeans 102 = .ok (.goto (-35), 3) := by decide +kernel
theorem dX5_remakeMeans_105 : decode cX5_remakeMeans 105 = .ok (.iinc 2 1, 3) := by decide +kernel
theorem dX5_remakeMeans_108 : decode cX5_remakeMeans 108 = .ok (.goto (-51), 3) := by decide +kernel
theorem dX5_remakeMeans_111 : decode cX5_remakeMeans 111 = .ok (.return_, 1) := by decide +kernel
theorem dX5_squaresAbove_0 : decode cX5_squaresAbove 0 = .ok (.lconst 0, 1) := by decide +kernel
theorem dX5_squaresAbove_1 : decode cX5_squaresAbove 1 = .ok (.lstore 4, 2) := by decide +kernel
theorem dX5_squaresAbove_3 : decode cX5_squaresAbove 3 = .ok (.iconst 0, 1) := by decide +kernel
theorem dX5_squaresAbove_4 : decode cX5_squaresAbove 4 = .ok (.istore 6, 2) := by decide +kernel
theorem dX5_squaresAbove_6 : decode cX5_squaresAbove 6 = .ok (.iload 6, 2) := by decide +kernel
theorem dX5_squaresAbove_8 : decode cX5_squaresAbove 8 = .ok (.aload_n 1, 1) := by decide +kernel
theorem dX5_squaresAbove_9 : decode cX5_squaresAbove 9 = .ok (.getfield 59, 3) := by decide +kernel
theorem dX5_squaresAbove_12 : decode cX5_squaresAbove 12 = .ok (.if_icmp .ge 48, 3) := by decide +kernel
theorem dX5_squaresAbove_15 : decode cX5_squaresAbove 15 = .ok (.aload_n 1, 1) := by decide +kernel
theorem dX5_squaresAbove_16 : decode cX5_squaresAbove 16 = .ok (.iload_n 2, 1) := by decide +kernel
theorem dX5_squaresAbove_17 : decode cX5_squaresAbove 17 = .ok (.iload 6, 2) := by decide +kernel
theorem dX5_squaresAbove_19 : decode cX5_squaresAbove 19 = .ok (.invokevirtual 62, 3) := by decide +kernel
theorem dX5_squaresAbove_22 : decode cX5_squaresAbove 22 = .ok (.aload_n 0, 1) := by decide +kernel
theorem dX5_squaresAbove_23 : decode cX5_squaresAbove 23 = .ok (.getfield 24, 3) := by decide +kernel
theorem dX5_squaresAbove_26 : decode cX5_squaresAbove 26 = .ok (.iload_n 3, 1) := by decide +kernel
theorem dX5_squaresAbove_27 : decode cX5_squaresAbove 27 = .ok (.iaload, 1) := by decide +kernel
theorem dX5_squaresAbove_28 : decode cX5_squaresAbove 28 = .ok (.imul, 1) := by decide +kernel
theorem dX5_squaresAbove_29 : decode cX5_squaresAbove 29 = .ok (.aload_n 0, 1) := by decide +kernel
theorem dX5_squaresAbove_30 : decode cX5_squaresAbove 30 = .ok (.getfield 21, 3) := by decide +kernel
theorem dX5_squaresAbove_33 : decode cX5_squaresAbove 33 = .ok (.iload_n 3, 1) := by decide +kernel
theorem dX5_squaresAbove_34 : decode cX5_squaresAbove 34 = .ok (.iconst 4, 1) := by decide +kernel
theorem dX5_squaresAbove_35 : decode cX5_squaresAbove 35 = .ok (.imul, 1) := by decide +kernel
theorem dX5_squaresAbove_36 : decode cX5_squaresAbove 36 = .ok (.iload 6, 2) := by decide +kernel
theorem dX5_squaresAbove_38 : decode cX5_squaresAbove 38 = .ok (.iadd, 1) := by decide +kernel
theorem dX5_squaresAbove_39 : decode cX5_squaresAbove 39 = .ok (.iaload, 1) := by decide +kernel
theorem dX5_squaresAbove_40 : decode cX5_squaresAbove 40 = .ok (.isub, 1) := by decide +kernel
theorem dX5_squaresAbove_41 : decode cX5_squaresAbove 41 = .ok (.i2l, 1) := by decide +kernel
theorem dX5_squaresAbove_42 : decode cX5_squaresAbove 42 = .ok (.lstore 7, 2) := by decide +kernel
theorem dX5_squaresAbove_44 : decode cX5_squaresAbove 44 = .ok (.lload 4, 2) := by decide +kernel
theorem dX5_squaresAbove_46 : decode cX5_squaresAbove 46 = .ok (.lload 7, 2) := by decide +kernel
theorem dX5_squaresAbove_48 : decode cX5_squaresAbove 48 = .ok (.lload 7, 2) := by decide +kernel
theorem dX5_squaresAbove_50 : decode cX5_squaresAbove 50 = .ok (.lmul, 1) := by decide +kernel
theorem dX5_squaresAbove_51 : decode cX5_squaresAbove 51 = .ok (.ladd, 1) := by decide +kernel
theorem dX5_squaresAbove_52 : decode cX5_squaresAbove 52 = .ok (.lstore 4, 2) := by decide +kernel
theorem dX5_squaresAbove_54 : decode cX5_squaresAbove 54 = .ok (.iinc 6 1, 3) := by decide +kernel
theorem dX5_squaresAbove_57 : decode cX5_squaresAbove 57 = .ok (.goto (-51), 3) := by decide +kernel
theorem dX5_squaresAbove_60 : decode cX5_squaresAbove 60 = .ok (.lload 4, 2) := by decide +kernel
theorem dX5_squaresAbove_62 : decode cX5_squaresAbove 62 = .ok (.lreturn, 1) := by decide +kernel
theorem dX5_squaresBelow_0 : decode cX5_squaresBelow 0 = .ok (.aload_n 0, 1) := by decide +kernel
theorem dX5_squaresBelow_1 : decode cX5_squaresBelow 1 = .ok (.getfield 24, 3) := by decide +kernel
theorem dX5_squaresBelow_4 : decode cX5_squaresBelow 4 = .ok (.iload_n 1, 1) := by decide +kernel
theorem dX5_squaresBelow_5 : decode cX5_squaresBelow 5 = .ok (.iaload, 1) := by decide +kernel
theorem dX5_squaresBelow_6 : decode cX5_squaresBelow 6 = .ok (.aload_n 0, 1) := by decide +kernel
theorem dX5_squaresBelow_7 : decode cX5_squaresBelow 7 = .ok (.getfield 24, 3) := by decide +kernel
theorem dX5_squaresBelow_10 : decode cX5_squaresBelow 10 = .ok (.iload_n 1, 1) := by decide +kernel
theorem dX5_squaresBelow_11 : decode cX5_squaresBelow 11 = .ok (.iaload, 1) := by decide +kernel
theorem dX5_squaresBelow_12 : decode cX5_squaresBelow 12 = .ok (.imul, 1) := by decide +kernel
theorem dX5_squaresBelow_13 : decode cX5_squaresBelow 13 = .ok (.i2l, 1) := by decide +kernel
theorem dX5_squaresBelow_14 : decode cX5_squaresBelow 14 = .ok (.lreturn, 1) := by decide +kernel
theorem dX6_init_0 : decode cX6_init 0 = .ok (.aload_n 0, 1) := by decide +kernel
theorem dX6_init_1 : decode cX6_init 1 = .ok (.invokespecial 3, 3) := by decide +kernel
theorem dX6_init_4 : decode cX6_init 4 = .ok (.aload_n 0, 1) := by decide +kernel
theorem dX6_init_5 : decode cX6_init 5 = .ok (.bipush 120, 2) := by decide +kernel
theorem dX6_init_7 : decode cX6_init 7 = .ok (.newarray .int, 2) := by decide +kernel
theorem dX6_init_9 : decode cX6_init 9 = .ok (.putfield 9, 3) := by decide +kernel
theorem dX6_init_12 : decode cX6_init 12 = .ok (.aload_n 0, 1) := by decide +kernel
theorem dX6_init_13 : decode cX6_init 13 = .ok (.sipush 2700, 3) := by decide +kernel
theorem dX6_init_16 : decode cX6_init 16 = .ok (.newarray .int, 2) := by decide +kernel
theorem dX6_init_18 : decode cX6_init 18 = .ok (.putfield 15, 3) := by decide +kernel
theorem dX6_init_21 : decode cX6_init 21 = .ok (.aload_n 0, 1) := by decide +kernel
theorem dX6_init_22 : decode cX6_init 22 = .ok (.iconst 2, 1) := by decide +kernel
theorem dX6_init_23 : decode cX6_init 23 = .ok (.putfield 18, 3) := by decide +kernel
theorem dX6_init_26 : decode cX6_init 26 = .ok (.aload_n 0, 1) := by decide +kernel
theorem dX6_init_27 : decode cX6_init 27 = .ok (.iconst 0, 1) := by decide +kernel
theorem dX6_init_28 : decode cX6_init 28 = .ok (.putfield 22, 3) := by decide +kernel
theorem dX6_init_31 : decode cX6_init 31 = .ok (.return_, 1) := by decide +kernel
theorem dX6_takes_0 : decode cX6_takes 0 = .ok (.iload_n 1, 1) := by decide +kernel
theorem dX6_takes_1 : decode cX6_takes 1 = .ok (.aload_n 0, 1) := by decide +kernel
theorem dX6_takes_2 : decode cX6_takes 2 = .ok (.getfield 18, 3) := by decide +kernel
theorem dX6_takes_5 : decode cX6_takes 5 = .ok (.if_icmp .ge 17, 3) := by decide +kernel
theorem dX6_takes_8 : decode cX6_takes 8 = .ok (.iload_n 2, 1) := by decide +kernel
theorem dX6_takes_9 : decode cX6_takes 9 = .ok (.sipush (-1000), 3) := by decide +kernel
theorem dX6_takes_12 : decode cX6_takes 12 = .ok (.if_icmp .lt 14, 3) := by decide +kernel
theorem dX6_takes_15 : decode cX6_takes 15 = .ok (.iload_n 2, 1) := by decide +kernel
theorem dX6_takes_16 : decode cX6_takes 16 = .ok (.sipush 1000, 3) := by decide +kernel
theorem dX6_takes_19 : decode cX6_takes 19 = .ok (.if_icmp .gt 7, 3) := by decide +kernel
theorem dX6_takes_22 : decode cX6_takes 22 = .ok (.iconst 1, 1) := by decide +kernel
theorem dX6_takes_23 : decode cX6_takes 23 = .ok (.goto 4, 3) := by decide +kernel
theorem dX6_takes_26 : decode cX6_takes 26 = .ok (.iconst 0, 1) := by decide +kernel
theorem dX6_takes_27 : decode cX6_takes 27 = .ok (.ireturn, 1) := by decide +kernel
theorem dX6_append_0 : decode cX6_append 0 = .ok (.aload_n 0, 1) := by decide +kernel
theorem dX6_append_1 : decode cX6_append 1 = .ok (.getfield 22, 3) := by decide +kernel
theorem dX6_append_4 : decode cX6_append 4 = .ok (.istore 5, 2) := by decide +kernel
theorem dX6_append_6 : decode cX6_append 6 = .ok (.iload 5, 2) := by decide +kernel
theorem dX6_append_8 : decode cX6_append 8 = .ok (.iconst 4, 1) := by decide +kernel
theorem dX6_append_9 : decode cX6_append 9 = .ok (.imul, 1) := by decide +kernel
theorem dX6_append_10 : decode cX6_append 10 = .ok (.istore 6, 2) := by decide +kernel
theorem dX6_append_12 : decode cX6_append 12 = .ok (.aload_n 0, 1) := by decide +kernel
theorem dX6_append_13 : decode cX6_append 13 = .ok (.getfield 9, 3) := by decide +kernel
theorem dX6_append_16 : decode cX6_append 16 = .ok (.iload 6, 2) := by decide +kernel
theorem dX6_append_18 : decode cX6_append 18 = .ok (.iload_n 1, 1) := by decide +kernel
theorem dX6_append_19 : decode cX6_append 19 = .ok (.iastore, 1) := by decide +kernel
theorem dX6_append_20 : decode cX6_append 20 = .ok (.aload_n 0, 1) := by decide +kernel
theorem dX6_append_21 : decode cX6_append 21 = .ok (.getfield 9, 3) := by decide +kernel
theorem dX6_append_24 : decode cX6_append 24 = .ok (.iload 6, 2) := by decide +kernel
theorem dX6_append_26 : decode cX6_append 26 = .ok (.iconst 1, 1) := by decide +kernel
theorem dX6_append_27 : decode cX6_append 27 = .ok (.iadd, 1) := by decide +kernel
theorem dX6_append_28 : decode cX6_append 28 = .ok (.iload_n 2, 1) := by decide +kernel
theorem dX6_append_29 : decode cX6_append 29 = .ok (.iastore, 1) := by decide +kernel
theorem dX6_append_30 : decode cX6_append 30 = .ok (.aload_n 0, 1) := by decide +kernel
theorem dX6_append_31 : decode cX6_append 31 = .ok (.getfield 9, 3) := by decide +kernel
theorem dX6_append_34 : decode cX6_append 34 = .ok (.iload 6, 2) := by decide +kernel
theorem dX6_append_36 : decode cX6_append 36 = .ok (.iconst 2, 1) := by decide +kernel
theorem dX6_append_37 : decode cX6_append 37 = .ok (.iadd, 1) := by decide +kernel
theorem dX6_append_38 : decode cX6_append 38 = .ok (.iload_n 3, 1) := by decide +kernel
theorem dX6_append_39 : decode cX6_append 39 = .ok (.iastore, 1) := by decide +kernel
theorem dX6_append_40 : decode cX6_append 40 = .ok (.aload_n 0, 1) := by decide +kernel
theorem dX6_append_41 : decode cX6_append 41 = .ok (.getfield 9, 3) := by decide +kernel
theorem dX6_append_44 : decode cX6_append 44 = .ok (.iload 6, 2) := by decide +kernel
theorem dX6_append_46 : decode cX6_append 46 = .ok (.iconst 3, 1) := by decide +kernel
theorem dX6_append_47 : decode cX6_append 47 = .ok (.iadd, 1) := by decide +kernel
theorem dX6_append_48 : decode cX6_append 48 = .ok (.iload 4, 2) := by decide +kernel
theorem dX6_append_50 : decode cX6_append 50 = .ok (.iastore, 1) := by decide +kernel
theorem dX6_append_51 : decode cX6_append 51 = .ok (.iconst 0, 1) := by decide +kernel
theorem dX6_append_52 : decode cX6_append 52 = .ok (.istore 7, 2) := by decide +kernel
theorem dX6_append_54 : decode cX6_append 54 = .ok (.iload 7, 2) := by decide +kernel
theorem dX6_append_56 : decode cX6_append 56 = .ok (.iload 5, 2) := by decide +kernel
theorem dX6_append_58 : decode cX6_append 58 = .ok (.if_icmp .gt 17, 3) := by decide +kernel
theorem dX6_append_61 : decode cX6_append 61 = .ok (.aload_n 0, 1) := by decide +kernel
theorem dX6_append_62 : decode cX6_append 62 = .ok (.iload 5, 2) := by decide +kernel
theorem dX6_append_64 : decode cX6_append 64 = .ok (.iload 7, 2) := by decide +kernel
theorem dX6_append_66 : decode cX6_append 66 = .ok (.invokevirtual 25, 3) := by decide +kernel
theorem dX6_append_69 : decode cX6_append 69 = .ok (.iinc 7 1, 3) := by decide +kernel
theorem dX6_append_72 : decode cX6_append 72 = .ok (.goto (-18), 3) := by decide +kernel
theorem dX6_append_75 : decode cX6_append 75 = .ok (.aload_n 0, 1) := by decide +kernel
theorem dX6_append_76 : decode cX6_append 76 = .ok (.iload 5, 2) := by decide +kernel
theorem dX6_append_78 : decode cX6_append 78 = .ok (.iconst 1, 1) := by decide +kernel
theorem dX6_append_79 : decode cX6_append 79 = .ok (.iadd, 1) := by decide +kernel
theorem dX6_append_80 : decode cX6_append 80 = .ok (.putfield 22, 3) := by decide +kernel
theorem dX6_append_83 : decode cX6_append 83 = .ok (.iload 5, 2) := by decide +kernel
theorem dX6_append_85 : decode cX6_append 85 = .ok (.ireturn, 1) := by decide +kernel
theorem dX6_cell_0 : decode cX6_cell 0 = .ok (.aload_n 0, 1) := by decide +kernel
theorem dX6_cell_1 : decode cX6_cell 1 = .ok (.getfield 9, 3) := by decide +kernel
theorem dX6_cell_4 : decode cX6_cell 4 = .ok (.iload_n 1, 1) := by decide +kernel
theorem dX6_cell_5 : decode cX6_cell 5 = .ok (.iconst 4, 1) := by decide +kernel
theorem dX6_cell_6 : decode cX6_cell 6 = .ok (.imul, 1) := by decide +kernel
theorem dX6_cell_7 : decode cX6_cell 7 = .ok (.iload_n 2, 1) := by decide +kernel
theorem dX6_cell_8 : decode cX6_cell 8 = .ok (.iadd, 1) := by decide +kernel
theorem dX6_cell_9 : decode cX6_cell 9 = .ok (.iaload, 1) := by decide +kernel
theorem dX6_cell_10 : decode cX6_cell 10 = .ok (.ireturn, 1) := by decide +kernel
theorem dX6_apart_0 : decode cX6_apart 0 = .ok (.aload_n 0, 1) := by decide +kernel
theorem dX6_apart_1 : decode cX6_apart 1 = .ok (.getfield 15, 3) := by decide +kernel
theorem dX6_apart_4 : decode cX6_apart 4 = .ok (.aload_n 0, 1) := by decide +kernel
theorem dX6_apart_5 : decode cX6_apart 5 = .ok (.iload_n 1, 1) := by decide +kernel
theorem dX6_apart_6 : decode cX6_apart 6 = .ok (.iload_n 2, 1) := by decide +kernel
theorem dX6_apart_7 : decode cX6_apart 7 = .ok (.invokevirtual 29, 3) := by decide +kernel
theorem dX6_apart_10 : decode cX6_apart 10 = .ok (.iload_n 3, 1) := by decide +kernel
theorem dX6_apart_11 : decode cX6_apart 11 = .ok (.iadd, 1) := by decide +kernel
theorem dX6_apart_12 : decode cX6_apart 12 = .ok (.iaload, 1) := by decide +kernel
theorem dX6_apart_13 : decode cX6_apart 13 = .ok (.ireturn, 1) := by decide +kernel
theorem dX6_placeOf_0 : decode cX6_placeOf 0 = .ok (.iload_n 1, 1) := by decide +kernel
theorem dX6_placeOf_1 : decode cX6_placeOf 1 = .ok (.bipush 30, 2) := by decide +kernel
theorem dX6_placeOf_3 : decode cX6_placeOf 3 = .ok (.imul, 1) := by decide +kernel
theorem dX6_placeOf_4 : decode cX6_placeOf 4 = .ok (.iload_n 2, 1) := by decide +kernel
theorem dX6_placeOf_5 : decode cX6_placeOf 5 = .ok (.iadd, 1) := by decide +kernel
theorem dX6_placeOf_6 : decode cX6_placeOf 6 = .ok (.bipush 30, 2) := by decide +kernel
theorem dX6_placeOf_8 : decode cX6_placeOf 8 = .ok (.imul, 1) := by decide +kernel
theorem dX6_placeOf_9 : decode cX6_placeOf 9 = .ok (.ireturn, 1) := by decide +kernel
theorem dX6_nearerThan_0 : decode cX6_nearerThan 0 = .ok (.aload_n 0, 1) := by decide +kernel
theorem dX6_nearerThan_1 : decode cX6_nearerThan 1 = .ok (.iload_n 1, 1) := by decide +kernel
theorem dX6_nearerThan_2 : decode cX6_nearerThan 2 = .ok (.iload_n 2, 1) := by decide +kernel
theorem dX6_nearerThan_3 : decode cX6_nearerThan 3 = .ok (.iload_n 3, 1) := by decide +kernel
theorem dX6_nearerThan_4 : decode cX6_nearerThan 4 = .ok (.invokevirtual 33, 3) := by decide +kernel
theorem dX6_nearerThan_7 : decode cX6_nearerThan 7 = .ok (.istore 4, 2) := by decide +kernel
theorem dX6_nearerThan_9 : decode cX6_nearerThan 9 = .ok (.iconst 0, 1) := by decide +kernel
theorem dX6_nearerThan_10 : decode cX6_nearerThan 10 = .ok (.istore 5, 2) := by decide +kernel
theorem dX6_nearerThan_12 : decode cX6_nearerThan 12 = .ok (.iconst 0, 1) := by decide +kernel
theorem dX6_nearerThan_13 : decode cX6_nearerThan 13 = .ok (.istore 6, 2) := by decide +kernel
theorem dX6_nearerThan_15 : decode cX6_nearerThan 15 = .ok (.iload 6, 2) := by decide +kernel
theorem dX6_nearerThan_17 : decode cX6_nearerThan 17 = .ok (.aload_n 0, 1) := by decide +kernel
theorem dX6_nearerThan_18 : decode cX6_nearerThan 18 = .ok (.getfield 22, 3) := by decide +kernel
theorem dX6_nearerThan_21 : decode cX6_nearerThan 21 = .ok (.if_icmp .ge 48, 3) := by decide +kernel
theorem dX6_nearerThan_24 : decode cX6_nearerThan 24 = .ok (.aload_n 0, 1) := by decide +kernel
theorem dX6_nearerThan_25 : decode cX6_nearerThan 25 = .ok (.iload_n 1, 1) := by decide +kernel
theorem dX6_nearerThan_26 : decode cX6_nearerThan 26 = .ok (.iload_n 2, 1) := by decide +kernel
theorem dX6_nearerThan_27 : decode cX6_nearerThan 27 = .ok (.iload 6, 2) := by decide +kernel
theorem dX6_nearerThan_29 : decode cX6_nearerThan 29 = .ok (.invokevirtual 33, 3) := by decide +kernel
theorem dX6_nearerThan_32 : decode cX6_nearerThan 32 = .ok (.istore 7, 2) := by decide +kernel
theorem dX6_nearerThan_34 : decode cX6_nearerThan 34 = .ok (.iload 6, 2) := by decide +kernel
theorem dX6_nearerThan_36 : decode cX6_nearerThan 36 = .ok (.iload_n 2, 1) := by decide +kernel
theorem dX6_nearerThan_37 : decode cX6_nearerThan 37 = .ok (.if_icmp .eq 26, 3) := by decide +kernel
theorem dX6_nearerThan_40 : decode cX6_nearerThan 40 = .ok (.iload 7, 2) := by decide +kernel
theorem dX6_nearerThan_42 : decode cX6_nearerThan 42 = .ok (.iload 4, 2) := by decide +kernel
theorem dX6_nearerThan_44 : decode cX6_nearerThan 44 = .ok (.if_icmp .lt 16, 3) := by decide +kernel
theorem dX6_nearerThan_47 : decode cX6_nearerThan 47 = .ok (.iload 7, 2) := by decide +kernel
theorem dX6_nearerThan_49 : decode cX6_nearerThan 49 = .ok (.iload 4, 2) := by decide +kernel
theorem dX6_nearerThan_51 : decode cX6_nearerThan 51 = .ok (.if_icmp .ne 12, 3) := by decide +kernel
theorem dX6_nearerThan_54 : decode cX6_nearerThan 54 = .ok (.iload 6, 2) := by decide +kernel
theorem dX6_nearerThan_56 : decode cX6_nearerThan 56 = .ok (.iload_n 3, 1) := by decide +kernel
theorem dX6_nearerThan_57 : decode cX6_nearerThan 57 = .ok (.if_icmp .ge 6, 3) := by decide +kernel
theorem dX6_nearerThan_60 : decode cX6_nearerThan 60 = .ok (.iinc 5 1, 3) := by decide +kernel
theorem dX6_nearerThan_63 : decode cX6_nearerThan 63 = .ok (.iinc 6 1, 3) := by decide +kernel
theorem dX6_nearerThan_66 : decode cX6_nearerThan 66 = .ok (.goto (-51), 3) := by decide +kernel
theorem dX6_nearerThan_69 : decode cX6_nearerThan 69 = .ok (.iload 5, 2) := by decide +kernel
theorem dX6_nearerThan_71 : decode cX6_nearerThan 71 = .ok (.ireturn, 1) := by decide +kernel
theorem dX6_measure_0 : decode cX6_measure 0 = .ok (.iconst 0, 1) := by decide +kernel
theorem dX6_measure_1 : decode cX6_measure 1 = .ok (.istore_n 3, 1) := by decide +kernel
theorem dX6_measure_2 : decode cX6_measure 2 = .ok (.iconst 0, 1) := by decide +kernel
theorem dX6_measure_3 : decode cX6_measure 3 = .ok (.istore 4, 2) := by decide +kernel
theorem dX6_measure_5 : decode cX6_measure 5 = .ok (.iconst 0, 1) := by decide +kernel
theorem dX6_measure_6 : decode cX6_measure 6 = .ok (.istore 5, 2) := by decide +kernel
theorem dX6_measure_8 : decode cX6_measure 8 = .ok (.iconst 0, 1) := by decide +kernel
theorem dX6_measure_9 : decode cX6_measure 9 = .ok (.istore 6, 2) := by decide +kernel
theorem dX6_measure_11 : decode cX6_measure 11 = .ok (.iload 6, 2) := by decide +kernel
theorem dX6_measure_13 : decode cX6_measure 13 = .ok (.aload_n 0, 1) := by decide +kernel
theorem dX6_measure_14 : decode cX6_measure 14 = .ok (.getfield 18, 3) := by decide +kernel
theorem dX6_measure_17 : decode cX6_measure 17 = .ok (.if_icmp .ge 53, 3) := by decide +kernel
theorem dX6_measure_20 : decode cX6_measure 20 = .ok (.aload_n 0, 1) := by decide +kernel
theorem dX6_measure_21 : decode cX6_measure 21 = .ok (.iload_n 1, 1) := by decide +kernel
theorem dX6_measure_22 : decode cX6_measure 22 = .ok (.iload 6, 2) := by decide +kernel
theorem dX6_measure_24 : decode cX6_measure 24 = .ok (.invokevirtual 37, 3) := by decide +kernel
theorem dX6_measure_27 : decode cX6_measure 27 = .ok (.aload_n 0, 1) := by decide +kernel
theorem dX6_measure_28 : decode cX6_measure 28 = .ok (.iload_n 2, 1) := by decide +kernel
theorem dX6_measure_29 : decode cX6_measure 29 = .ok (.iload 6, 2) := by decide +kernel
theorem dX6_measure_31 : decode cX6_measure 31 = .ok (.invokevirtual 37, 3) := by decide +kernel
theorem dX6_measure_34 : decode cX6_measure 34 = .ok (.isub, 1) := by decide +kernel
theorem dX6_measure_35 : decode cX6_measure 35 = .ok (.invokestatic 40, 3) := by decide +kernel
theorem dX6_measure_38 : decode cX6_measure 38 = .ok (.istore 7, 2) := by decide +kernel
theorem dX6_measure_40 : decode cX6_measure 40 = .ok (.iload_n 3, 1) := by decide +kernel
theorem dX6_measure_41 : decode cX6_measure 41 = .ok (.iload 7, 2) := by decide +kernel
theorem dX6_measure_43 : decode cX6_measure 43 = .ok (.iload 7, 2) := by decide +kernel
theorem dX6_measure_45 : decode cX6_measure 45 = .ok (.imul, 1) := by decide +kernel
theorem dX6_measure_46 : decode cX6_measure 46 = .ok (.iadd, 1) := by decide +kernel
theorem dX6_measure_47 : decode cX6_measure 47 = .ok (.istore_n 3, 1) := by decide +kernel
theorem dX6_measure_48 : decode cX6_measure 48 = .ok (.iload 4, 2) := by decide +kernel
theorem dX6_measure_50 : decode cX6_measure 50 = .ok (.iload 7, 2) := by decide +kernel
theorem dX6_measure_52 : decode cX6_measure 52 = .ok (.iadd, 1) := by decide +kernel
theorem dX6_measure_53 : decode cX6_measure 53 = .ok (.istore 4, 2) := by decide +kernel
theorem dX6_measure_55 : decode cX6_measure 55 = .ok (.iload 5, 2) := by decide +kernel
theorem dX6_measure_57 : decode cX6_measure 57 = .ok (.iload 7, 2) := by decide +kernel
theorem dX6_measure_59 : decode cX6_measure 59 = .ok (.invokestatic 46, 3) := by decide +kernel
theorem dX6_measure_62 : decode cX6_measure 62 = .ok (.istore 5, 2) := by decide +kernel
theorem dX6_measure_64 : decode cX6_measure 64 = .ok (.iinc 6 1, 3) := by decide +kernel
theorem dX6_measure_67 : decode cX6_measure 67 = .ok (.goto (-56), 3) := by decide +kernel
theorem dX6_measure_70 : decode cX6_measure 70 = .ok (.aload_n 0, 1) := by decide +kernel
theorem dX6_measure_71 : decode cX6_measure 71 = .ok (.iconst 0, 1) := by decide +kernel
theorem dX6_measure_72 : decode cX6_measure 72 = .ok (.iload_n 1, 1) := by decide +kernel
theorem dX6_measure_73 : decode cX6_measure 73 = .ok (.iload_n 2, 1) := by decide +kernel
theorem dX6_measure_74 : decode cX6_measure 74 = .ok (.iload_n 3, 1) := by decide +kernel
theorem dX6_measure_75 : decode cX6_measure 75 = .ok (.invokevirtual 49, 3) := by decide +kernel
theorem dX6_measure_78 : decode cX6_measure 78 = .ok (.aload_n 0, 1) := by decide +kernel
theorem dX6_measure_79 : decode cX6_measure 79 = .ok (.iconst 1, 1) := by decide +kernel
theorem dX6_measure_80 : decode cX6_measure 80 = .ok (.iload_n 1, 1) := by decide +kernel
theorem dX6_measure_81 : decode cX6_measure 81 = .ok (.iload_n 2, 1) := by decide +kernel
theorem dX6_measure_82 : decode cX6_measure 82 = .ok (.iload 4, 2) := by decide +kernel
theorem dX6_measure_84 : decode cX6_measure 84 = .ok (.invokevirtual 49, 3) := by decide +kernel
theorem dX6_measure_87 : decode cX6_measure 87 = .ok (.aload_n 0, 1) := by decide +kernel
theorem dX6_measure_88 : decode cX6_measure 88 = .ok (.iconst 2, 1) := by decide +kernel
theorem dX6_measure_89 : decode cX6_measure 89 = .ok (.iload_n 1, 1) := by decide +kernel
theorem dX6_measure_90 : decode cX6_measure 90 = .ok (.iload_n 2, 1) := by decide +kernel
theorem dX6_measure_91 : decode cX6_measure 91 = .ok (.iload 5, 2) := by decide +kernel
theorem dX6_measure_93 : decode cX6_measure 93 = .ok (.invokevirtual 49, 3) := by decide +kernel
theorem dX6_measure_96 : decode cX6_measure 96 = .ok (.return_, 1) := by decide +kernel
theorem dX6_note_0 : decode cX6_note 0 = .ok (.aload_n 0, 1) := by decide +kernel
theorem dX6_note_1 : decode cX6_note 1 = .ok (.getfield 15, 3) := by decide +kernel
theorem dX6_note_4 : decode cX6_note 4 = .ok (.aload_n 0, 1) := by decide +kernel
theorem dX6_note_5 : decode cX6_note 5 = .ok (.iload_n 1, 1) := by decide +kernel
theorem dX6_note_6 : decode cX6_note 6 = .ok (.iload_n 2, 1) := by decide +kernel
theorem dX6_note_7 : decode cX6_note 7 = .ok (.invokevirtual 29, 3) := by decide +kernel
theorem dX6_note_10 : decode cX6_note 10 = .ok (.iload_n 3, 1) := by decide +kernel
theorem dX6_note_11 : decode cX6_note 11 = .ok (.iadd, 1) := by decide +kernel
theorem dX6_note_12 : decode cX6_note 12 = .ok (.iload 4, 2) := by decide +kernel
theorem dX6_note_14 : decode cX6_note 14 = .ok (.iastore, 1) := by decide +kernel
theorem dX6_note_15 : decode cX6_note 15 = .ok (.aload_n 0, 1) := by decide +kernel
theorem dX6_note_16 : decode cX6_note 16 = .ok (.getfield 15, 3) := by decide +kernel
theorem dX6_note_19 : decode cX6_note 19 = .ok (.aload_n 0, 1) := by decide +kernel
theorem dX6_note_20 : decode cX6_note 20 = .ok (.iload_n 1, 1) := by decide +kernel
theorem dX6_note_21 : decode cX6_note 21 = .ok (.iload_n 3, 1) := by decide +kernel
theorem dX6_note_22 : decode cX6_note 22 = .ok (.invokevirtual 29, 3) := by decide +kernel
theorem dX6_note_25 : decode cX6_note 25 = .ok (.iload_n 2, 1) := by decide +kernel
theorem dX6_note_26 : decode cX6_note 26 = .ok (.iadd, 1) := by decide +kernel
theorem dX6_note_27 : decode cX6_note 27 = .ok (.iload 4, 2) := by decide +kernel
theorem dX6_note_29 : decode cX6_note 29 = .ok (.iastore, 1) := by decide +kernel
theorem dX6_note_30 : decode cX6_note 30 = .ok (.return_, 1) := by decide +kernel
theorem dX7_init_0 : decode cX7_init 0 = .ok (.aload_n 0, 1) := by decide +kernel
theorem dX7_init_1 : decode cX7_init 1 = .ok (.invokespecial 1, 3) := by decide +kernel
theorem dX7_init_4 : decode cX7_init 4 = .ok (.aload_n 0, 1) := by decide +kernel
theorem dX7_init_5 : decode cX7_init 5 = .ok (.new 7, 3) := by decide +kernel
theorem dX7_init_8 : decode cX7_init 8 = .ok (.dup, 1) := by decide +kernel
theorem dX7_init_9 : decode cX7_init 9 = .ok (.invokespecial 9, 3) := by decide +kernel
theorem dX7_init_12 : decode cX7_init 12 = .ok (.putfield 10, 3) := by decide +kernel
theorem dX7_init_15 : decode cX7_init 15 = .ok (.aload_n 0, 1) := by decide +kernel
theorem dX7_init_16 : decode cX7_init 16 = .ok (.iconst 2, 1) := by decide +kernel
theorem dX7_init_17 : decode cX7_init 17 = .ok (.anewarray 16, 3) := by decide +kernel
theorem dX7_init_20 : decode cX7_init 20 = .ok (.putfield 18, 3) := by decide +kernel
theorem dX7_init_23 : decode cX7_init 23 = .ok (.iconst 0, 1) := by decide +kernel
theorem dX7_init_24 : decode cX7_init 24 = .ok (.istore_n 1, 1) := by decide +kernel
theorem dX7_init_25 : decode cX7_init 25 = .ok (.iload_n 1, 1) := by decide +kernel
theorem dX7_init_26 : decode cX7_init 26 = .ok (.iconst 2, 1) := by decide +kernel
theorem dX7_init_27 : decode cX7_init 27 = .ok (.if_icmp .ge 22, 3) := by decide +kernel
theorem dX7_init_30 : decode cX7_init 30 = .ok (.aload_n 0, 1) := by decide +kernel
theorem dX7_init_31 : decode cX7_init 31 = .ok (.getfield 18, 3) := by decide +kernel
theorem dX7_init_34 : decode cX7_init 34 = .ok (.iload_n 1, 1) := by decide +kernel
theorem dX7_init_35 : decode cX7_init 35 = .ok (.new 16, 3) := by decide +kernel
theorem dX7_init_38 : decode cX7_init 38 = .ok (.dup, 1) := by decide +kernel
theorem dX7_init_39 : decode cX7_init 39 = .ok (.invokespecial 22, 3) := by decide +kernel
theorem dX7_init_42 : decode cX7_init 42 = .ok (.aastore, 1) := by decide +kernel
theorem dX7_init_43 : decode cX7_init 43 = .ok (.iinc 1 1, 3) := by decide +kernel
theorem dX7_init_46 : decode cX7_init 46 = .ok (.goto (-21), 3) := by decide +kernel
theorem dX7_init_49 : decode cX7_init 49 = .ok (.aload_n 0, 1) := by decide +kernel
theorem dX7_init_50 : decode cX7_init 50 = .ok (.new 23, 3) := by decide +kernel
theorem dX7_init_53 : decode cX7_init 53 = .ok (.dup, 1) := by decide +kernel
theorem dX7_init_54 : decode cX7_init 54 = .ok (.invokespecial 25, 3) := by decide +kernel
theorem dX7_init_57 : decode cX7_init 57 = .ok (.putfield 26, 3) := by decide +kernel
theorem dX7_init_60 : decode cX7_init 60 = .ok (.aload_n 0, 1) := by decide +kernel
theorem dX7_init_61 : decode cX7_init 61 = .ok (.new 30, 3) := by decide +kernel
theorem dX7_init_64 : decode cX7_init 64 = .ok (.dup, 1) := by decide +kernel
theorem dX7_init_65 : decode cX7_init 65 = .ok (.invokespecial 32, 3) := by decide +kernel
theorem dX7_init_68 : decode cX7_init 68 = .ok (.putfield 33, 3) := by decide +kernel
theorem dX7_init_71 : decode cX7_init 71 = .ok (.aload_n 0, 1) := by decide +kernel
theorem dX7_init_72 : decode cX7_init 72 = .ok (.new 37, 3) := by decide +kernel
theorem dX7_init_75 : decode cX7_init 75 = .ok (.dup, 1) := by decide +kernel
theorem dX7_init_76 : decode cX7_init 76 = .ok (.invokespecial 39, 3) := by decide +kernel
theorem dX7_init_79 : decode cX7_init 79 = .ok (.putfield 40, 3) := by decide +kernel
theorem dX7_init_82 : decode cX7_init 82 = .ok (.aload_n 0, 1) := by decide +kernel
theorem dX7_init_83 : decode cX7_init 83 = .ok (.new 44, 3) := by decide +kernel
theorem dX7_init_86 : decode cX7_init 86 = .ok (.dup, 1) := by decide +kernel
theorem dX7_init_87 : decode cX7_init 87 = .ok (.invokespecial 46, 3) := by decide +kernel
theorem dX7_init_90 : decode cX7_init 90 = .ok (.putfield 47, 3) := by decide +kernel
theorem dX7_init_93 : decode cX7_init 93 = .ok (.aload_n 0, 1) := by decide +kernel
theorem dX7_init_94 : decode cX7_init 94 = .ok (.new 51, 3) := by decide +kernel
theorem dX7_init_97 : decode cX7_init 97 = .ok (.dup, 1) := by decide +kernel
theorem dX7_init_98 : decode cX7_init 98 = .ok (.invokespecial 53, 3) := by decide +kernel
theorem dX7_init_101 : decode cX7_init 101 = .ok (.putfield 54, 3) := by decide +kernel
theorem dX7_init_104 : decode cX7_init 104 = .ok (.return_, 1) := by decide +kernel
theorem dX7_columns_0 : decode cX7_columns 0 = .ok (.iload_n 1, 1) := by decide +kernel
theorem dX7_columns_1 : decode cX7_columns 1 = .ok (.iconst 1, 1) := by decide +kernel
theorem dX7_columns_2 : decode cX7_columns 2 = .ok (.if_icmp .lt 8, 3) := by decide +kernel
theorem dX7_columns_5 : decode cX7_columns 5 = .ok (.iload_n 1, 1) := by decide +kernel
theorem dX7_columns_6 : decode cX7_columns 6 = .ok (.iconst 4, 1) := by decide +kernel
theorem dX7_columns_7 : decode cX7_columns 7 = .ok (.if_icmp .le 6, 3) := by decide +kernel
theorem dX7_columns_10 : decode cX7_columns 10 = .ok (.ldc 58, 2) := by decide +kernel
theorem dX7_columns_12 : decode cX7_columns 12 = .ok (.ireturn, 1) := by decide +kernel
theorem dX7_columns_13 : decode cX7_columns 13 = .ok (.aload_n 0, 1) := by decide +kernel
theorem dX7_columns_14 : decode cX7_columns 14 = .ok (.getfield 10, 3) := by decide +kernel
theorem dX7_columns_17 : decode cX7_columns 17 = .ok (.getfield 59, 3) := by decide +kernel
theorem dX7_columns_20 : decode cX7_columns 20 = .ok (.ifCond .le 6, 3) := by decide +kernel
theorem dX7_columns_23 : decode cX7_columns 23 = .ok (.ldc 63, 2) := by decide +kernel
theorem dX7_columns_25 : decode cX7_columns 25 = .ok (.ireturn, 1) := by decide +kernel
theorem dX7_columns_26 : decode cX7_columns 26 = .ok (.aload_n 0, 1) := by decide +kernel
theorem dX7_columns_27 : decode cX7_columns 27 = .ok (.getfield 10, 3) := by decide +kernel
theorem dX7_columns_30 : decode cX7_columns 30 = .ok (.iload_n 1, 1) := by decide +kernel
theorem dX7_columns_31 : decode cX7_columns 31 = .ok (.putfield 64, 3) := by decide +kernel
theorem dX7_columns_34 : decode cX7_columns 34 = .ok (.iconst 1, 1) := by decide +kernel
theorem dX7_columns_35 : decode cX7_columns 35 = .ok (.ireturn, 1) := by decide +kernel
theorem dX7_row_0 : decode cX7_row 0 = .ok (.aload_n 0, 1) := by decide +kernel
theorem dX7_row_1 : decode cX7_row 1 = .ok (.getfield 10, 3) := by decide +kernel
theorem dX7_row_4 : decode cX7_row 4 = .ok (.iconst 0, 1) := by decide +kernel
theorem dX7_row_5 : decode cX7_row 5 = .ok (.iload_n 1, 1) := by decide +kernel
theorem dX7_row_6 : decode cX7_row 6 = .ok (.invokevirtual 67, 3) := by decide +kernel
theorem dX7_row_9 : decode cX7_row 9 = .ok (.ifCond .eq 40, 3) := by decide +kernel
theorem dX7_row_12 : decode cX7_row 12 = .ok (.aload_n 0, 1) := by decide +kernel
theorem dX7_row_13 : decode cX7_row 13 = .ok (.getfield 10, 3) := by decide +kernel
theorem dX7_row_16 : decode cX7_row 16 = .ok (.iconst 1, 1) := by decide +kernel
theorem dX7_row_17 : decode cX7_row 17 = .ok (.iload_n 2, 1) := by decide +kernel
theorem dX7_row_18 : decode cX7_row 18 = .ok (.invokevirtual 67, 3) := by decide +kernel
theorem dX7_row_21 : decode cX7_row 21 = .ok (.ifCond .eq 28, 3) := by decide +kernel
theorem dX7_row_24 : decode cX7_row 24 = .ok (.aload_n 0, 1) := by decide +kernel
theorem dX7_row_25 : decode cX7_row 25 = .ok (.getfield 10, 3) := by decide +kernel
theorem dX7_row_28 : decode cX7_row 28 = .ok (.iconst 2, 1) := by decide +kernel
theorem dX7_row_29 : decode cX7_row 29 = .ok (.iload_n 3, 1) := by decide +kernel
theorem dX7_row_30 : decode cX7_row 30 = .ok (.invokevirtual 67, 3) := by decide +kernel
theorem dX7_row_33 : decode cX7_row 33 = .ok (.ifCond .eq 16, 3) := by decide +kernel
theorem dX7_row_36 : decode cX7_row 36 = .ok (.aload_n 0, 1) := by decide +kernel
theorem dX7_row_37 : decode cX7_row 37 = .ok (.getfield 10, 3) := by decide +kernel
theorem dX7_row_40 : decode cX7_row 40 = .ok (.iconst 3, 1) := by decide +kernel
theorem dX7_row_41 : decode cX7_row 41 = .ok (.iload 4, 2) := by decide +kernel
theorem dX7_row_43 : decode cX7_row 43 = .ok (.invokevirtual 67, 3) := by decide +kernel
theorem dX7_row_46 : decode cX7_row 46 = .ok (.ifCond .ne 6, 3) := by decide +kernel
theorem dX7_row_49 : decode cX7_row 49 = .ok (.ldc 58, 2) := by decide +kernel
theorem dX7_row_51 : decode cX7_row 51 = .ok (.ireturn, 1) := by decide +kernel
theorem dX7_row_52 : decode cX7_row 52 = .ok (.aload_n 0, 1) := by decide +kernel
theorem dX7_row_53 : decode cX7_row 53 = .ok (.getfield 10, 3) := by decide +kernel
theorem dX7_row_56 : decode cX7_row 56 = .ok (.getfield 59, 3) := by decide +kernel
theorem dX7_row_59 : decode cX7_row 59 = .ok (.bipush 30, 2) := by decide +kernel
theorem dX7_row_61 : decode cX7_row 61 = .ok (.if_icmp .lt 6, 3) := by decide +kernel
theorem dX7_row_64 : decode cX7_row 64 = .ok (.ldc 71, 2) := by decide +kernel
theorem dX7_row_66 : decode cX7_row 66 = .ok (.ireturn, 1) := by decide +kernel
theorem dX7_row_67 : decode cX7_row 67 = .ok (.aload_n 0, 1) := by decide +kernel
theorem dX7_row_68 : decode cX7_row 68 = .ok (.invokevirtual 72, 3) := by decide +kernel
theorem dX7_row_71 : decode cX7_row 71 = .ok (.aload_n 0, 1) := by decide +kernel
theorem dX7_row_72 : decode cX7_row 72 = .ok (.getfield 10, 3) := by decide +kernel
theorem dX7_row_75 : decode cX7_row 75 = .ok (.iload_n 1, 1) := by decide +kernel
theorem dX7_row_76 : decode cX7_row 76 = .ok (.iload_n 2, 1) := by decide +kernel
theorem dX7_row_77 : decode cX7_row 77 = .ok (.iload_n 3, 1) := by decide +kernel
theorem dX7_row_78 : decode cX7_row 78 = .ok (.iload 4, 2) := by decide +kernel
theorem dX7_row_80 : decode cX7_row 80 = .ok (.invokevirtual 75, 3) := by decide +kernel
theorem dX7_row_83 : decode cX7_row 83 = .ok (.ireturn, 1) := by decide +kernel
theorem dX7_clear_0 : decode cX7_clear 0 = .ok (.aload_n 0, 1) := by decide +kernel
theorem dX7_clear_1 : decode cX7_clear 1 = .ok (.getfield 10, 3) := by decide +kernel
theorem dX7_clear_4 : decode cX7_clear 4 = .ok (.getfield 59, 3) := by decide +kernel
theorem dX7_clear_7 : decode cX7_clear 7 = .ok (.istore_n 1, 1) := by decide +kernel
theorem dX7_clear_8 : decode cX7_clear 8 = .ok (.aload_n 0, 1) := by decide +kernel
theorem dX7_clear_9 : decode cX7_clear 9 = .ok (.getfield 10, 3) := by decide +kernel
theorem dX7_clear_12 : decode cX7_clear 12 = .ok (.iconst 0, 1) := by decide +kernel
theorem dX7_clear_13 : decode cX7_clear 13 = .ok (.putfield 59, 3) := by decide +kernel
theorem dX7_clear_16 : decode cX7_clear 16 = .ok (.aload_n 0, 1) := by decide +kernel
theorem dX7_clear_17 : decode cX7_clear 17 = .ok (.invokevirtual 72, 3) := by decide +kernel
theorem dX7_clear_20 : decode cX7_clear 20 = .ok (.iload_n 1, 1) := by decide +kernel
theorem dX7_clear_21 : decode cX7_clear 21 = .ok (.ireturn, 1) := by decide +kernel
theorem dX7_count_0 : decode cX7_count 0 = .ok (.iload_n 1, 1) := by decide +kernel
theorem dX7_count_1 : decode cX7_count 1 = .ok (.tableswitch 79 0 4 #[35, 43, 51, 61, 71], 35) := by decide +kernel
theorem dX7_count_36 : decode cX7_count 36 = .ok (.aload_n 0, 1) := by decide +kernel
theorem dX7_count_37 : decode cX7_count 37 = .ok (.getfield 10, 3) := by decide +kernel
theorem dX7_count_40 : decode cX7_count 40 = .ok (.getfield 59, 3) := by decide +kernel
theorem dX7_count_43 : decode cX7_count 43 = .ok (.ireturn, 1) := by decide +kernel
theorem dX7_count_44 : decode cX7_count 44 = .ok (.aload_n 0, 1) := by decide +kernel
theorem dX7_count_45 : decode cX7_count 45 = .ok (.getfield 10, 3) := by decide +kernel
theorem dX7_count_48 : decode cX7_count 48 = .ok (.getfield 64, 3) := by decide +kernel
theorem dX7_count_51 : decode cX7_count 51 = .ok (.ireturn, 1) := by decide +kernel
theorem dX7_count_52 : decode cX7_count 52 = .ok (.aload_n 0, 1) := by decide +kernel
theorem dX7_count_53 : decode cX7_count 53 = .ok (.getfield 18, 3) := by decide +kernel
theorem dX7_count_56 : decode cX7_count 56 = .ok (.iconst 0, 1) := by decide +kernel
theorem dX7_count_57 : decode cX7_count 57 = .ok (.aaload, 1) := by decide +kernel
theorem dX7_count_58 : decode cX7_count 58 = .ok (.getfield 79, 3) := by decide +kernel
theorem dX7_count_61 : decode cX7_count 61 = .ok (.ireturn, 1) := by decide +kernel
theorem dX7_count_62 : decode cX7_count 62 = .ok (.aload_n 0, 1) := by decide +kernel
theorem dX7_count_63 : decode cX7_count 63 = .ok (.getfield 18, 3) := by decide +kernel
theorem dX7_count_66 : decode cX7_count 66 = .ok (.iconst 1, 1) := by decide +kernel
theorem dX7_count_67 : decode cX7_count 67 = .ok (.aaload, 1) := by decide +kernel
theorem dX7_count_68 : decode cX7_count 68 = .ok (.getfield 79, 3) := by decide +kernel
theorem dX7_count_71 : decode cX7_count 71 = .ok (.ireturn, 1) := by decide +kernel
theorem dX7_count_72 : decode cX7_count 72 = .ok (.aload_n 0, 1) := by decide +kernel
theorem dX7_count_73 : decode cX7_count 73 = .ok (.getfield 47, 3) := by decide +kernel
theorem dX7_count_76 : decode cX7_count 76 = .ok (.getfield 82, 3) := by decide +kernel
theorem dX7_count_79 : decode cX7_count 79 = .ok (.ireturn, 1) := by decide +kernel
theorem dX7_count_80 : decode cX7_count 80 = .ok (.ldc 58, 2) := by decide +kernel
theorem dX7_count_82 : decode cX7_count 82 = .ok (.ireturn, 1) := by decide +kernel
theorem dX7_distance_0 : decode cX7_distance 0 = .ok (.aload_n 0, 1) := by decide +kernel
theorem dX7_distance_1 : decode cX7_distance 1 = .ok (.iload_n 2, 1) := by decide +kernel
theorem dX7_distance_2 : decode cX7_distance 2 = .ok (.invokevirtual 85, 3) := by decide +kernel
theorem dX7_distance_5 : decode cX7_distance 5 = .ok (.ifCond .eq 11, 3) := by decide +kernel
theorem dX7_distance_8 : decode cX7_distance 8 = .ok (.aload_n 0, 1) := by decide +kernel
theorem dX7_distance_9 : decode cX7_distance 9 = .ok (.iload_n 3, 1) := by decide +kernel
theorem dX7_distance_10 : decode cX7_distance 10 = .ok (.invokevirtual 85, 3) := by decide +kernel
theorem dX7_distance_13 : decode cX7_distance 13 = .ok (.ifCond .ne 6, 3) := by decide +kernel
theorem dX7_distance_16 : decode cX7_distance 16 = .ok (.ldc 89, 2) := by decide +kernel
theorem dX7_distance_18 : decode cX7_distance 18 = .ok (.ireturn, 1) := by decide +kernel
theorem dX7_distance_19 : decode cX7_distance 19 = .ok (.iload_n 1, 1) := by decide +kernel
theorem dX7_distance_20 : decode cX7_distance 20 = .ok (.invokestatic 90, 3) := by decide +kernel
theorem dX7_distance_23 : decode cX7_distance 23 = .ok (.ifCond .ne 6, 3) := by decide +kernel
theorem dX7_distance_26 : decode cX7_distance 26 = .ok (.ldc 58, 2) := by decide +kernel
theorem dX7_distance_28 : decode cX7_distance 28 = .ok (.ireturn, 1) := by decide +kernel
theorem dX7_distance_29 : decode cX7_distance 29 = .ok (.aload_n 0, 1) := by decide +kernel
theorem dX7_distance_30 : decode cX7_distance 30 = .ok (.getfield 10, 3) := by decide +kernel
theorem dX7_distance_33 : decode cX7_distance 33 = .ok (.iload_n 1, 1) := by decide +kernel
theorem dX7_distance_34 : decode cX7_distance 34 = .ok (.iload_n 2, 1) := by decide +kernel
theorem dX7_distance_35 : decode cX7_distance 35 = .ok (.iload_n 3, 1) := by decide +kernel
theorem dX7_distance_36 : decode cX7_distance 36 = .ok (.invokevirtual 93, 3) := by decide +kernel
theorem dX7_distance_39 : decode cX7_distance 39 = .ok (.ireturn, 1) := by decide +kernel
theorem dX7_near_0 : decode cX7_near 0 = .ok (.aload_n 0, 1) := by decide +kernel
theorem dX7_near_1 : decode cX7_near 1 = .ok (.iload_n 2, 1) := by decide +kernel
theorem dX7_near_2 : decode cX7_near 2 = .ok (.invokevirtual 85, 3) := by decide +kernel
theorem dX7_near_5 : decode cX7_near 5 = .ok (.ifCond .ne 6, 3) := by decide +kernel
theorem dX7_near_8 : decode cX7_near 8 = .ok (.ldc 89, 2) := by decide +kernel
theorem dX7_near_10 : decode cX7_near 10 = .ok (.ireturn, 1) := by decide +kernel
theorem dX7_near_11 : decode cX7_near 11 = .ok (.iload_n 1, 1) := by decide +kernel
theorem dX7_near_12 : decode cX7_near 12 = .ok (.invokestatic 90, 3) := by decide +kernel
theorem dX7_near_15 : decode cX7_near 15 = .ok (.ifCond .ne 6, 3) := by decide +kernel
theorem dX7_near_18 : decode cX7_near 18 = .ok (.ldc 58, 2) := by decide +kernel
theorem dX7_near_20 : decode cX7_near 20 = .ok (.ireturn, 1) := by decide +kernel
theorem dX7_near_21 : decode cX7_near 21 = .ok (.iconst 0, 1) := by decide +kernel
theorem dX7_near_22 : decode cX7_near 22 = .ok (.istore 4, 2) := by decide +kernel
theorem dX7_near_24 : decode cX7_near 24 = .ok (.iload 4, 2) := by decide +kernel
theorem dX7_near_26 : decode cX7_near 26 = .ok (.aload_n 0, 1) := by decide +kernel
theorem dX7_near_27 : decode cX7_near 27 = .ok (.getfield 10, 3) := by decide +kernel
theorem dX7_near_30 : decode cX7_near 30 = .ok (.getfield 59, 3) := by decide +kernel
theorem dX7_near_33 : decode cX7_near 33 = .ok (.if_icmp .ge 33, 3) := by decide +kernel
theorem dX7_near_36 : decode cX7_near 36 = .ok (.iload 4, 2) := by decide +kernel
theorem dX7_near_38 : decode cX7_near 38 = .ok (.iload_n 2, 1) := by decide +kernel
theorem dX7_near_39 : decode cX7_near 39 = .ok (.if_icmp .eq 21, 3) := by decide +kernel
theorem dX7_near_42 : decode cX7_near 42 = .ok (.aload_n 0, 1) := by decide +kernel
theorem dX7_near_43 : decode cX7_near 43 = .ok (.getfield 10, 3) := by decide +kernel
theorem dX7_near_46 : decode cX7_near 46 = .ok (.iload_n 1, 1) := by decide +kernel
theorem dX7_near_47 : decode cX7_near 47 = .ok (.iload_n 2, 1) := by decide +kernel
theorem dX7_near_48 : decode cX7_near 48 = .ok (.iload 4, 2) := by decide +kernel
theorem dX7_near_50 : decode cX7_near 50 = .ok (.invokevirtual 97, 3) := by decide +kernel
theorem dX7_near_53 : decode cX7_near 53 = .ok (.iload_n 3, 1) := by decide +kernel
theorem dX7_near_54 : decode cX7_near 54 = .ok (.if_icmp .ne 6, 3) := by decide +kernel
theorem dX7_near_57 : decode cX7_near 57 = .ok (.iload 4, 2) := by decide +kernel
theorem dX7_near_59 : decode cX7_near 59 = .ok (.ireturn, 1) := by decide +kernel
theorem dX7_near_60 : decode cX7_near 60 = .ok (.iinc 4 1, 3) := by decide +kernel
theorem dX7_near_63 : decode cX7_near 63 = .ok (.goto (-39), 3) := by decide +kernel
theorem dX7_near_66 : decode cX7_near 66 = .ok (.iconst (-1), 1) := by decide +kernel
theorem dX7_near_67 : decode cX7_near 67 = .ok (.ireturn, 1) := by decide +kernel
theorem dX7_means_0 : decode cX7_means 0 = .ok (.iload_n 1, 1) := by decide +kernel
theorem dX7_means_1 : decode cX7_means 1 = .ok (.invokestatic 100, 3) := by decide +kernel
theorem dX7_means_4 : decode cX7_means 4 = .ok (.ifCond .eq 14, 3) := by decide +kernel
theorem dX7_means_7 : decode cX7_means 7 = .ok (.iload_n 2, 1) := by decide +kernel
theorem dX7_means_8 : decode cX7_means 8 = .ok (.iconst 1, 1) := by decide +kernel
theorem dX7_means_9 : decode cX7_means 9 = .ok (.if_icmp .lt 9, 3) := by decide +kernel
theorem dX7_means_12 : decode cX7_means 12 = .ok (.iload_n 2, 1) := by decide +kernel
theorem dX7_means_13 : decode cX7_means 13 = .ok (.bipush 6, 2) := by decide +kernel
theorem dX7_means_15 : decode cX7_means 15 = .ok (.if_icmp .le 6, 3) := by decide +kernel
theorem dX7_means_18 : decode cX7_means 18 = .ok (.ldc 58, 2) := by decide +kernel
theorem dX7_means_20 : decode cX7_means 20 = .ok (.ireturn, 1) := by decide +kernel
theorem dX7_means_21 : decode cX7_means 21 = .ok (.aload_n 0, 1) := by decide +kernel
theorem dX7_means_22 : decode cX7_means 22 = .ok (.getfield 10, 3) := by decide +kernel
theorem dX7_means_25 : decode cX7_means 25 = .ok (.getfield 59, 3) := by decide +kernel
theorem dX7_means_28 : decode cX7_means 28 = .ok (.iload_n 2, 1) := by decide +kernel
theorem dX7_means_29 : decode cX7_means 29 = .ok (.if_icmp .ge 6, 3) := by decide +kernel
theorem dX7_means_32 : decode cX7_means 32 = .ok (.ldc 63, 2) := by decide +kernel
theorem dX7_means_34 : decode cX7_means 34 = .ok (.ireturn, 1) := by decide +kernel
theorem dX7_means_35 : decode cX7_means 35 = .ok (.aload_n 0, 1) := by decide +kernel
theorem dX7_means_36 : decode cX7_means 36 = .ok (.getfield 26, 3) := by decide +kernel
theorem dX7_means_39 : decode cX7_means 39 = .ok (.aload_n 0, 1) := by decide +kernel
theorem dX7_means_40 : decode cX7_means 40 = .ok (.getfield 10, 3) := by decide +kernel
theorem dX7_means_43 : decode cX7_means 43 = .ok (.iload_n 2, 1) := by decide +kernel
theorem dX7_means_44 : decode cX7_means 44 = .ok (.invokevirtual 103, 3) := by decide +kernel
theorem dX7_means_47 : decode cX7_means 47 = .ok (.istore_n 3, 1) := by decide +kernel
theorem dX7_means_48 : decode cX7_means 48 = .ok (.aload_n 0, 1) := by decide +kernel
theorem dX7_means_49 : decode cX7_means 49 = .ok (.getfield 18, 3) := by decide +kernel
theorem dX7_means_52 : decode cX7_means 52 = .ok (.iload_n 1, 1) := by decide +kernel
theorem dX7_means_53 : decode cX7_means 53 = .ok (.aaload, 1) := by decide +kernel
theorem dX7_means_54 : decode cX7_means 54 = .ok (.aload_n 0, 1) := by decide +kernel
theorem dX7_means_55 : decode cX7_means 55 = .ok (.getfield 26, 3) := by decide +kernel
theorem dX7_means_58 : decode cX7_means 58 = .ok (.getfield 107, 3) := by decide +kernel
theorem dX7_means_61 : decode cX7_means 61 = .ok (.aload_n 0, 1) := by decide +kernel
theorem dX7_means_62 : decode cX7_means 62 = .ok (.getfield 10, 3) := by decide +kernel
theorem dX7_means_65 : decode cX7_means 65 = .ok (.getfield 59, 3) := by decide +kernel
theorem dX7_means_68 : decode cX7_means 68 = .ok (.iload_n 2, 1) := by decide +kernel
theorem dX7_means_69 : decode cX7_means 69 = .ok (.invokevirtual 111, 3) := by decide +kernel
theorem dX7_means_72 : decode cX7_means 72 = .ok (.iload_n 3, 1) := by decide +kernel
theorem dX7_means_73 : decode cX7_means 73 = .ok (.ireturn, 1) := by decide +kernel
theorem dX7_medoids_0 : decode cX7_medoids 0 = .ok (.iload_n 1, 1) := by decide +kernel
theorem dX7_medoids_1 : decode cX7_medoids 1 = .ok (.invokestatic 100, 3) := by decide +kernel
theorem dX7_medoids_4 : decode cX7_medoids 4 = .ok (.ifCond .eq 20, 3) := by decide +kernel
theorem dX7_medoids_7 : decode cX7_medoids 7 = .ok (.iload_n 2, 1) := by decide +kernel
theorem dX7_medoids_8 : decode cX7_medoids 8 = .ok (.invokestatic 90, 3) := by decide +kernel
theorem dX7_medoids_11 : decode cX7_medoids 11 = .ok (.ifCond .eq 13, 3) := by decide +kernel
theorem dX7_medoids_14 : decode cX7_medoids 14 = .ok (.iload_n 3, 1) := by decide +kernel
theorem dX7_medoids_15 : decode cX7_medoids 15 = .ok (.iconst 1, 1) := by decide +kernel
theorem dX7_medoids_16 : decode cX7_medoids 16 = .ok (.if_icmp .lt 8, 3) := by decide +kernel
theorem dX7_medoids_19 : decode cX7_medoids 19 = .ok (.iload_n 3, 1) := by decide +kernel
theorem dX7_medoids_20 : decode cX7_medoids 20 = .ok (.iconst 3, 1) := by decide +kernel
theorem dX7_medoids_21 : decode cX7_medoids 21 = .ok (.if_icmp .le 6, 3) := by decide +kernel
theorem dX7_medoids_24 : decode cX7_medoids 24 = .ok (.ldc 58, 2) := by decide +kernel
theorem dX7_medoids_26 : decode cX7_medoids 26 = .ok (.ireturn, 1) := by decide +kernel
theorem dX7_medoids_27 : decode cX7_medoids 27 = .ok (.aload_n 0, 1) := by decide +kernel
theorem dX7_medoids_28 : decode cX7_medoids 28 = .ok (.getfield 10, 3) := by decide +kernel
theorem dX7_medoids_31 : decode cX7_medoids 31 = .ok (.getfield 59, 3) := by decide +kernel
theorem dX7_medoids_34 : decode cX7_medoids 34 = .ok (.iload_n 3, 1) := by decide +kernel
theorem dX7_medoids_35 : decode cX7_medoids 35 = .ok (.if_icmp .ge 6, 3) := by decide +kernel
theorem dX7_medoids_38 : decode cX7_medoids 38 = .ok (.ldc 63, 2) := by decide +kernel
theorem dX7_medoids_40 : decode cX7_medoids 40 = .ok (.ireturn, 1) := by decide +kernel
theorem dX7_medoids_41 : decode cX7_medoids 41 = .ok (.aload_n 0, 1) := by decide +kernel
theorem dX7_medoids_42 : decode cX7_medoids 42 = .ok (.getfield 33, 3) := by decide +kernel
theorem dX7_medoids_45 : decode cX7_medoids 45 = .ok (.aload_n 0, 1) := by decide +kernel
theorem dX7_medoids_46 : decode cX7_medoids 46 = .ok (.getfield 10, 3) := by decide +kernel
theorem dX7_medoids_49 : decode cX7_medoids 49 = .ok (.iload_n 2, 1) := by decide +kernel
theorem dX7_medoids_50 : decode cX7_medoids 50 = .ok (.iload_n 3, 1) := by decide +kernel
theorem dX7_medoids_51 : decode cX7_medoids 51 = .ok (.invokevirtual 115, 3) := by decide +kernel
theorem dX7_medoids_54 : decode cX7_medoids 54 = .ok (.istore 4, 2) := by decide +kernel
theorem dX7_medoids_56 : decode cX7_medoids 56 = .ok (.aload_n 0, 1) := by decide +kernel
theorem dX7_medoids_57 : decode cX7_medoids 57 = .ok (.getfield 18, 3) := by decide +kernel
theorem dX7_medoids_60 : decode cX7_medoids 60 = .ok (.iload_n 1, 1) := by decide +kernel
theorem dX7_medoids_61 : decode cX7_medoids 61 = .ok (.aaload, 1) := by decide +kernel
theorem dX7_medoids_62 : decode cX7_medoids 62 = .ok (.aload_n 0, 1) := by decide +kernel
theorem dX7_medoids_63 : decode cX7_medoids 63 = .ok (.getfield 33, 3) := by decide +kernel
theorem dX7_medoids_66 : decode cX7_medoids 66 = .ok (.getfield 119, 3) := by decide +kernel
theorem dX7_medoids_69 : decode cX7_medoids 69 = .ok (.aload_n 0, 1) := by decide +kernel
theorem dX7_medoids_70 : decode cX7_medoids 70 = .ok (.getfield 10, 3) := by decide +kernel
theorem dX7_medoids_73 : decode cX7_medoids 73 = .ok (.getfield 59, 3) := by decide +kernel
theorem dX7_medoids_76 : decode cX7_medoids 76 = .ok (.iload_n 3, 1) := by decide +kernel
theorem dX7_medoids_77 : decode cX7_medoids 77 = .ok (.invokevirtual 111, 3) := by decide +kernel
theorem dX7_medoids_80 : decode cX7_medoids 80 = .ok (.iload 4, 2) := by decide +kernel
theorem dX7_medoids_82 : decode cX7_medoids 82 = .ok (.ireturn, 1) := by decide +kernel
theorem dX7_medoid_0 : decode cX7_medoid 0 = .ok (.iload_n 1, 1) := by decide +kernel
theorem dX7_medoid_1 : decode cX7_medoid 1 = .ok (.ifCond .lt 14, 3) := by decide +kernel
theorem dX7_medoid_4 : decode cX7_medoid 4 = .ok (.iload_n 1, 1) := by decide +kernel
theorem dX7_medoid_5 : decode cX7_medoid 5 = .ok (.aload_n 0, 1) := by decide +kernel
theorem dX7_medoid_6 : decode cX7_medoid 6 = .ok (.getfield 33, 3) := by decide +kernel
theorem dX7_medoid_9 : decode cX7_medoid 9 = .ok (.getfield 120, 3) := by decide +kernel
theorem dX7_medoid_12 : decode cX7_medoid 12 = .ok (.if_icmp .lt 5, 3) := by decide +kernel
theorem dX7_medoid_15 : decode cX7_medoid 15 = .ok (.iconst (-1), 1) := by decide +kernel
theorem dX7_medoid_16 : decode cX7_medoid 16 = .ok (.ireturn, 1) := by decide +kernel
theorem dX7_medoid_17 : decode cX7_medoid 17 = .ok (.aload_n 0, 1) := by decide +kernel
theorem dX7_medoid_18 : decode cX7_medoid 18 = .ok (.getfield 33, 3) := by decide +kernel
theorem dX7_medoid_21 : decode cX7_medoid 21 = .ok (.getfield 123, 3) := by decide +kernel
theorem dX7_medoid_24 : decode cX7_medoid 24 = .ok (.iload_n 1, 1) := by decide +kernel
theorem dX7_medoid_25 : decode cX7_medoid 25 = .ok (.iaload, 1) := by decide +kernel
theorem dX7_medoid_26 : decode cX7_medoid 26 = .ok (.ireturn, 1) := by decide +kernel
theorem dX7_density_0 : decode cX7_density 0 = .ok (.iload_n 1, 1) := by decide +kernel
theorem dX7_density_1 : decode cX7_density 1 = .ok (.invokestatic 100, 3) := by decide +kernel
theorem dX7_density_4 : decode cX7_density 4 = .ok (.ifCond .eq 33, 3) := by decide +kernel
theorem dX7_density_7 : decode cX7_density 7 = .ok (.iload_n 2, 1) := by decide +kernel
theorem dX7_density_8 : decode cX7_density 8 = .ok (.invokestatic 90, 3) := by decide +kernel
theorem dX7_density_11 : decode cX7_density 11 = .ok (.ifCond .eq 26, 3) := by decide +kernel
theorem dX7_density_14 : decode cX7_density 14 = .ok (.iload_n 3, 1) := by decide +kernel
theorem dX7_density_15 : decode cX7_density 15 = .ok (.ifCond .lt 22, 3) := by decide +kernel
theorem dX7_density_18 : decode cX7_density 18 = .ok (.iload_n 3, 1) := by decide +kernel
theorem dX7_density_19 : decode cX7_density 19 = .ok (.ldc 126, 2) := by decide +kernel
theorem dX7_density_21 : decode cX7_density 21 = .ok (.if_icmp .gt 16, 3) := by decide +kernel
theorem dX7_density_24 : decode cX7_density 24 = .ok (.iload 4, 2) := by decide +kernel
theorem dX7_density_26 : decode cX7_density 26 = .ok (.iconst 1, 1) := by decide +kernel
theorem dX7_density_27 : decode cX7_density 27 = .ok (.if_icmp .lt 10, 3) := by decide +kernel
theorem dX7_density_30 : decode cX7_density 30 = .ok (.iload 4, 2) := by decide +kernel
theorem dX7_density_32 : decode cX7_density 32 = .ok (.bipush 30, 2) := by decide +kernel
theorem dX7_density_34 : decode cX7_density 34 = .ok (.if_icmp .le 6, 3) := by decide +kernel
theorem dX7_density_37 : decode cX7_density 37 = .ok (.ldc 58, 2) := by decide +kernel
theorem dX7_density_39 : decode cX7_density 39 = .ok (.ireturn, 1) := by decide +kernel
theorem dX7_density_40 : decode cX7_density 40 = .ok (.aload_n 0, 1) := by decide +kernel
theorem dX7_density_41 : decode cX7_density 41 = .ok (.getfield 10, 3) := by decide +kernel
theorem dX7_density_44 : decode cX7_density 44 = .ok (.getfield 59, 3) := by decide +kernel
theorem dX7_density_47 : decode cX7_density 47 = .ok (.ifCond .ne 6, 3) := by decide +kernel
theorem dX7_density_50 : decode cX7_density 50 = .ok (.ldc 63, 2) := by decide +kernel
theorem dX7_density_52 : decode cX7_density 52 = .ok (.ireturn, 1) := by decide +kernel
theorem dX7_density_53 : decode cX7_density 53 = .ok (.aload_n 0, 1) := by decide +kernel
theorem dX7_density_54 : decode cX7_density 54 = .ok (.getfield 40, 3) := by decide +kernel
theorem dX7_density_57 : decode cX7_density 57 = .ok (.aload_n 0, 1) := by decide +kernel
theorem dX7_density_58 : decode cX7_density 58 = .ok (.getfield 10, 3) := by decide +kernel
theorem dX7_density_61 : decode cX7_density 61 = .ok (.iload_n 2, 1) := by decide +kernel
theorem dX7_density_62 : decode cX7_density 62 = .ok (.iload_n 3, 1) := by decide +kernel
theorem dX7_density_63 : decode cX7_density 63 = .ok (.iload 4, 2) := by decide +kernel
theorem dX7_density_65 : decode cX7_density 65 = .ok (.invokevirtual 127, 3) := by decide +kernel
theorem dX7_density_68 : decode cX7_density 68 = .ok (.istore 5, 2) := by decide +kernel
theorem dX7_density_70 : decode cX7_density 70 = .ok (.aload_n 0, 1) := by decide +kernel
theorem dX7_density_71 : decode cX7_density 71 = .ok (.getfield 18, 3) := by decide +kernel
theorem dX7_density_74 : decode cX7_density 74 = .ok (.iload_n 1, 1) := by decide +kernel
theorem dX7_density_75 : decode cX7_density 75 = .ok (.aaload, 1) := by decide +kernel
theorem dX7_density_76 : decode cX7_density 76 = .ok (.aload_n 0, 1) := by decide +kernel
theorem dX7_density_77 : decode cX7_density 77 = .ok (.getfield 40, 3) := by decide +kernel
theorem dX7_density_80 : decode cX7_density 80 = .ok (.getfield 131, 3) := by decide +kernel
theorem dX7_density_83 : decode cX7_density 83 = .ok (.aload_n 0, 1) := by decide +kernel
theorem dX7_density_84 : decode cX7_density 84 = .ok (.getfield 10, 3) := by decide +kernel
theorem dX7_density_87 : decode cX7_density 87 = .ok (.getfield 59, 3) := by decide +kernel
theorem dX7_density_90 : decode cX7_density 90 = .ok (.iload 5, 2) := by decide +kernel
theorem dX7_density_92 : decode cX7_density 92 = .ok (.invokevirtual 111, 3) := by decide +kernel
theorem dX7_density_95 : decode cX7_density 95 = .ok (.iload 5, 2) := by decide +kernel
theorem dX7_density_97 : decode cX7_density 97 = .ok (.ireturn, 1) := by decide +kernel
theorem dX7_tree_0 : decode cX7_tree 0 = .ok (.iload_n 1, 1) := by decide +kernel
theorem dX7_tree_1 : decode cX7_tree 1 = .ok (.ifCond .lt 15, 3) := by decide +kernel
theorem dX7_tree_4 : decode cX7_tree 4 = .ok (.iload_n 1, 1) := by decide +kernel
theorem dX7_tree_5 : decode cX7_tree 5 = .ok (.iconst 4, 1) := by decide +kernel
theorem dX7_tree_6 : decode cX7_tree 6 = .ok (.if_icmp .ge 10, 3) := by decide +kernel
theorem dX7_tree_9 : decode cX7_tree 9 = .ok (.iload_n 2, 1) := by decide +kernel
theorem dX7_tree_10 : decode cX7_tree 10 = .ok (.invokestatic 90, 3) := by decide +kernel
theorem dX7_tree_13 : decode cX7_tree 13 = .ok (.ifCond .ne 6, 3) := by decide +kernel
theorem dX7_tree_16 : decode cX7_tree 16 = .ok (.ldc 58, 2) := by decide +kernel
theorem dX7_tree_18 : decode cX7_tree 18 = .ok (.ireturn, 1) := by decide +kernel
theorem dX7_tree_19 : decode cX7_tree 19 = .ok (.aload_n 0, 1) := by decide +kernel
theorem dX7_tree_20 : decode cX7_tree 20 = .ok (.getfield 10, 3) := by decide +kernel
theorem dX7_tree_23 : decode cX7_tree 23 = .ok (.getfield 59, 3) := by decide +kernel
theorem dX7_tree_26 : decode cX7_tree 26 = .ok (.ifCond .ne 6, 3) := by decide +kernel
theorem dX7_tree_29 : decode cX7_tree 29 = .ok (.ldc 63, 2) := by decide +kernel
theorem dX7_tree_31 : decode cX7_tree 31 = .ok (.ireturn, 1) := by decide +kernel
theorem dX7_tree_32 : decode cX7_tree 32 = .ok (.aload_n 0, 1) := by decide +kernel
theorem dX7_tree_33 : decode cX7_tree 33 = .ok (.getfield 47, 3) := by decide +kernel
theorem dX7_tree_36 : decode cX7_tree 36 = .ok (.aload_n 0, 1) := by decide +kernel
theorem dX7_tree_37 : decode cX7_tree 37 = .ok (.getfield 10, 3) := by decide +kernel
theorem dX7_tree_40 : decode cX7_tree 40 = .ok (.iload_n 1, 1) := by decide +kernel
theorem dX7_tree_41 : decode cX7_tree 41 = .ok (.iload_n 2, 1) := by decide +kernel
theorem dX7_tree_42 : decode cX7_tree 42 = .ok (.invokevirtual 132, 3) := by decide +kernel
theorem dX7_tree_45 : decode cX7_tree 45 = .ok (.ireturn, 1) := by decide +kernel
theorem dX7_join_0 : decode cX7_join 0 = .ok (.iload_n 2, 1) := by decide +kernel
theorem dX7_join_1 : decode cX7_join 1 = .ok (.ifCond .lt 8, 3) := by decide +kernel
theorem dX7_join_4 : decode cX7_join 4 = .ok (.iload_n 2, 1) := by decide +kernel
theorem dX7_join_5 : decode cX7_join 5 = .ok (.iconst 4, 1) := by decide +kernel
theorem dX7_join_6 : decode cX7_join 6 = .ok (.if_icmp .le 7, 3) := by decide +kernel
theorem dX7_join_9 : decode cX7_join 9 = .ok (.ldc2_w 135, 3) := by decide +kernel
theorem dX7_join_12 : decode cX7_join 12 = .ok (.lreturn, 1) := by decide +kernel
theorem dX7_join_13 : decode cX7_join 13 = .ok (.aload_n 0, 1) := by decide +kernel
theorem dX7_join_14 : decode cX7_join 14 = .ok (.getfield 47, 3) := by decide +kernel
theorem dX7_join_17 : decode cX7_join 17 = .ok (.getfield 82, 3) := by decide +kernel
theorem dX7_join_20 : decode cX7_join 20 = .ok (.iconst (-1), 1) := by decide +kernel
theorem dX7_join_21 : decode cX7_join 21 = .ok (.if_icmp .ne 7, 3) := by decide +kernel
theorem dX7_join_24 : decode cX7_join 24 = .ok (.ldc2_w 137, 3) := by decide +kernel
theorem dX7_join_27 : decode cX7_join 27 = .ok (.lreturn, 1) := by decide +kernel
theorem dX7_join_28 : decode cX7_join 28 = .ok (.iload_n 1, 1) := by decide +kernel
theorem dX7_join_29 : decode cX7_join 29 = .ok (.ifCond .lt 14, 3) := by decide +kernel
theorem dX7_join_32 : decode cX7_join 32 = .ok (.iload_n 1, 1) := by decide +kernel
theorem dX7_join_33 : decode cX7_join 33 = .ok (.aload_n 0, 1) := by decide +kernel
theorem dX7_join_34 : decode cX7_join 34 = .ok (.getfield 47, 3) := by decide +kernel
theorem dX7_join_37 : decode cX7_join 37 = .ok (.getfield 82, 3) := by decide +kernel
theorem dX7_join_40 : decode cX7_join 40 = .ok (.if_icmp .lt 7, 3) := by decide +kernel
theorem dX7_join_43 : decode cX7_join 43 = .ok (.ldc2_w 139, 3) := by decide +kernel
theorem dX7_join_46 : decode cX7_join 46 = .ok (.lreturn, 1) := by decide +kernel
theorem dX7_join_47 : decode cX7_join 47 = .ok (.iload_n 2, 1) := by decide +kernel
theorem dX7_join_48 : decode cX7_join 48 = .ok (.tableswitch 75 0 3 #[32, 43, 54, 65], 32) := by decide +kernel
theorem dX7_join_80 : decode cX7_join 80 = .ok (.aload_n 0, 1) := by decide +kernel
theorem dX7_join_81 : decode cX7_join 81 = .ok (.getfield 47, 3) := by decide +kernel
theorem dX7_join_84 : decode cX7_join 84 = .ok (.getfield 141, 3) := by decide +kernel
theorem dX7_join_87 : decode cX7_join 87 = .ok (.iload_n 1, 1) := by decide +kernel
theorem dX7_join_88 : decode cX7_join 88 = .ok (.iaload, 1) := by decide +kernel
theorem dX7_join_89 : decode cX7_join 89 = .ok (.i2l, 1) := by decide +kernel
theorem dX7_join_90 : decode cX7_join 90 = .ok (.lreturn, 1) := by decide +kernel
theorem dX7_join_91 : decode cX7_join 91 = .ok (.aload_n 0, 1) := by decide +kernel
theorem dX7_join_92 : decode cX7_join 92 = .ok (.getfield 47, 3) := by decide +kernel
theorem dX7_join_95 : decode cX7_join 95 = .ok (.getfield 144, 3) := by decide +kernel
theorem dX7_join_98 : decode cX7_join 98 = .ok (.iload_n 1, 1) := by decide +kernel
theorem dX7_join_99 : decode cX7_join 99 = .ok (.iaload, 1) := by decide +kernel
theorem dX7_join_100 : decode cX7_join 100 = .ok (.i2l, 1) := by decide +kernel
theorem dX7_join_101 : decode cX7_join 101 = .ok (.lreturn, 1) := by decide +kernel
theorem dX7_join_102 : decode cX7_join 102 = .ok (.aload_n 0, 1) := by decide +kernel
theorem dX7_join_103 : decode cX7_join 103 = .ok (.getfield 47, 3) := by decide +kernel
theorem dX7_join_106 : decode cX7_join 106 = .ok (.getfield 147, 3) := by decide +kernel
theorem dX7_join_109 : decode cX7_join 109 = .ok (.iload_n 1, 1) := by decide +kernel
theorem dX7_join_110 : decode cX7_join 110 = .ok (.iaload, 1) := by decide +kernel
theorem dX7_join_111 : decode cX7_join 111 = .ok (.i2l, 1) := by decide +kernel
theorem dX7_join_112 : decode cX7_join 112 = .ok (.lreturn, 1) := by decide +kernel
theorem dX7_join_113 : decode cX7_join 113 = .ok (.aload_n 0, 1) := by decide +kernel
theorem dX7_join_114 : decode cX7_join 114 = .ok (.getfield 47, 3) := by decide +kernel
theorem dX7_join_117 : decode cX7_join 117 = .ok (.getfield 150, 3) := by decide +kernel
theorem dX7_join_120 : decode cX7_join 120 = .ok (.iload_n 1, 1) := by decide +kernel
theorem dX7_join_121 : decode cX7_join 121 = .ok (.laload, 1) := by decide +kernel
theorem dX7_join_122 : decode cX7_join 122 = .ok (.lreturn, 1) := by decide +kernel
theorem dX7_join_123 : decode cX7_join 123 = .ok (.aload_n 0, 1) := by decide +kernel
theorem dX7_join_124 : decode cX7_join 124 = .ok (.getfield 47, 3) := by decide +kernel
theorem dX7_join_127 : decode cX7_join 127 = .ok (.getfield 154, 3) := by decide +kernel
theorem dX7_join_130 : decode cX7_join 130 = .ok (.iload_n 1, 1) := by decide +kernel
theorem dX7_join_131 : decode cX7_join 131 = .ok (.laload, 1) := by decide +kernel
theorem dX7_join_132 : decode cX7_join 132 = .ok (.lreturn, 1) := by decide +kernel
theorem dX7_cut_0 : decode cX7_cut 0 = .ok (.iload_n 1, 1) := by decide +kernel
theorem dX7_cut_1 : decode cX7_cut 1 = .ok (.invokestatic 100, 3) := by decide +kernel
theorem dX7_cut_4 : decode cX7_cut 4 = .ok (.ifCond .eq 14, 3) := by decide +kernel
theorem dX7_cut_7 : decode cX7_cut 7 = .ok (.iload_n 2, 1) := by decide +kernel
theorem dX7_cut_8 : decode cX7_cut 8 = .ok (.iconst 1, 1) := by decide +kernel
theorem dX7_cut_9 : decode cX7_cut 9 = .ok (.if_icmp .lt 9, 3) := by decide +kernel
theorem dX7_cut_12 : decode cX7_cut 12 = .ok (.iload_n 2, 1) := by decide +kernel
theorem dX7_cut_13 : decode cX7_cut 13 = .ok (.bipush 30, 2) := by decide +kernel
theorem dX7_cut_15 : decode cX7_cut 15 = .ok (.if_icmp .le 6, 3) := by decide +kernel
theorem dX7_cut_18 : decode cX7_cut 18 = .ok (.ldc 58, 2) := by decide +kernel
theorem dX7_cut_20 : decode cX7_cut 20 = .ok (.ireturn, 1) := by decide +kernel
theorem dX7_cut_21 : decode cX7_cut 21 = .ok (.aload_n 0, 1) := by decide +kernel
theorem dX7_cut_22 : decode cX7_cut 22 = .ok (.getfield 47, 3) := by decide +kernel
theorem dX7_cut_25 : decode cX7_cut 25 = .ok (.getfield 82, 3) := by decide +kernel
theorem dX7_cut_28 : decode cX7_cut 28 = .ok (.iconst (-1), 1) := by decide +kernel
theorem dX7_cut_29 : decode cX7_cut 29 = .ok (.if_icmp .eq 14, 3) := by decide +kernel
theorem dX7_cut_32 : decode cX7_cut 32 = .ok (.aload_n 0, 1) := by decide +kernel
theorem dX7_cut_33 : decode cX7_cut 33 = .ok (.getfield 10, 3) := by decide +kernel
theorem dX7_cut_36 : decode cX7_cut 36 = .ok (.getfield 59, 3) := by decide +kernel
theorem dX7_cut_39 : decode cX7_cut 39 = .ok (.iload_n 2, 1) := by decide +kernel
theorem dX7_cut_40 : decode cX7_cut 40 = .ok (.if_icmp .ge 6, 3) := by decide +kernel
theorem dX7_cut_43 : decode cX7_cut 43 = .ok (.ldc 63, 2) := by decide +kernel
theorem dX7_cut_45 : decode cX7_cut 45 = .ok (.ireturn, 1) := by decide +kernel
theorem dX7_cut_46 : decode cX7_cut 46 = .ok (.aload_n 0, 1) := by decide +kernel
theorem dX7_cut_47 : decode cX7_cut 47 = .ok (.getfield 47, 3) := by decide +kernel
theorem dX7_cut_50 : decode cX7_cut 50 = .ok (.aload_n 0, 1) := by decide +kernel
theorem dX7_cut_51 : decode cX7_cut 51 = .ok (.getfield 10, 3) := by decide +kernel
theorem dX7_cut_54 : decode cX7_cut 54 = .ok (.getfield 59, 3) := by decide +kernel
theorem dX7_cut_57 : decode cX7_cut 57 = .ok (.iload_n 2, 1) := by decide +kernel
theorem dX7_cut_58 : decode cX7_cut 58 = .ok (.invokevirtual 157, 3) := by decide +kernel
theorem dX7_cut_61 : decode cX7_cut 61 = .ok (.aload_n 0, 1) := by decide +kernel
theorem dX7_cut_62 : decode cX7_cut 62 = .ok (.getfield 18, 3) := by decide +kernel
theorem dX7_cut_65 : decode cX7_cut 65 = .ok (.iload_n 1, 1) := by decide +kernel
theorem dX7_cut_66 : decode cX7_cut 66 = .ok (.aaload, 1) := by decide +kernel
theorem dX7_cut_67 : decode cX7_cut 67 = .ok (.aload_n 0, 1) := by decide +kernel
theorem dX7_cut_68 : decode cX7_cut 68 = .ok (.getfield 47, 3) := by decide +kernel
theorem dX7_cut_71 : decode cX7_cut 71 = .ok (.getfield 161, 3) := by decide +kernel
theorem dX7_cut_74 : decode cX7_cut 74 = .ok (.aload_n 0, 1) := by decide +kernel
theorem dX7_cut_75 : decode cX7_cut 75 = .ok (.getfield 10, 3) := by decide +kernel
theorem dX7_cut_78 : decode cX7_cut 78 = .ok (.getfield 59, 3) := by decide +kernel
theorem dX7_cut_81 : decode cX7_cut 81 = .ok (.iload_n 2, 1) := by decide +kernel
theorem dX7_cut_82 : decode cX7_cut 82 = .ok (.invokevirtual 111, 3) := by decide +kernel
theorem dX7_cut_85 : decode cX7_cut 85 = .ok (.iconst 1, 1) := by decide +kernel
theorem dX7_cut_86 : decode cX7_cut 86 = .ok (.ireturn, 1) := by decide +kernel
theorem dX7_of_0 : decode cX7_of 0 = .ok (.aload_n 0, 1) := by decide +kernel
theorem dX7_of_1 : decode cX7_of 1 = .ok (.iload_n 2, 1) := by decide +kernel
theorem dX7_of_2 : decode cX7_of 2 = .ok (.invokevirtual 85, 3) := by decide +kernel
theorem dX7_of_5 : decode cX7_of 5 = .ok (.ifCond .ne 6, 3) := by decide +kernel
theorem dX7_of_8 : decode cX7_of 8 = .ok (.ldc 89, 2) := by decide +kernel
theorem dX7_of_10 : decode cX7_of 10 = .ok (.ireturn, 1) := by decide +kernel
theorem dX7_of_11 : decode cX7_of 11 = .ok (.iload_n 1, 1) := by decide +kernel
theorem dX7_of_12 : decode cX7_of 12 = .ok (.invokestatic 100, 3) := by decide +kernel
theorem dX7_of_15 : decode cX7_of 15 = .ok (.ifCond .ne 6, 3) := by decide +kernel
theorem dX7_of_18 : decode cX7_of 18 = .ok (.ldc 58, 2) := by decide +kernel
theorem dX7_of_20 : decode cX7_of 20 = .ok (.ireturn, 1) := by decide +kernel
theorem dX7_of_21 : decode cX7_of 21 = .ok (.aload_n 0, 1) := by decide +kernel
theorem dX7_of_22 : decode cX7_of 22 = .ok (.getfield 18, 3) := by decide +kernel
theorem dX7_of_25 : decode cX7_of 25 = .ok (.iload_n 1, 1) := by decide +kernel
theorem dX7_of_26 : decode cX7_of 26 = .ok (.aaload, 1) := by decide +kernel
theorem dX7_of_27 : decode cX7_of 27 = .ok (.invokevirtual 162, 3) := by decide +kernel
theorem dX7_of_30 : decode cX7_of 30 = .ok (.ifCond .eq 6, 3) := by decide +kernel
theorem dX7_of_33 : decode cX7_of 33 = .ok (.ldc 63, 2) := by decide +kernel
theorem dX7_of_35 : decode cX7_of 35 = .ok (.ireturn, 1) := by decide +kernel
theorem dX7_of_36 : decode cX7_of 36 = .ok (.aload_n 0, 1) := by decide +kernel
theorem dX7_of_37 : decode cX7_of 37 = .ok (.getfield 18, 3) := by decide +kernel
theorem dX7_of_40 : decode cX7_of 40 = .ok (.iload_n 1, 1) := by decide +kernel
theorem dX7_of_41 : decode cX7_of 41 = .ok (.aaload, 1) := by decide +kernel
theorem dX7_of_42 : decode cX7_of 42 = .ok (.getfield 166, 3) := by decide +kernel
theorem dX7_of_45 : decode cX7_of 45 = .ok (.iload_n 2, 1) := by decide +kernel
theorem dX7_of_46 : decode cX7_of 46 = .ok (.iaload, 1) := by decide +kernel
theorem dX7_of_47 : decode cX7_of 47 = .ok (.ireturn, 1) := by decide +kernel
theorem dX7_size_0 : decode cX7_size 0 = .ok (.aload_n 0, 1) := by decide +kernel
theorem dX7_size_1 : decode cX7_size 1 = .ok (.iload_n 1, 1) := by decide +kernel
theorem dX7_size_2 : decode cX7_size 2 = .ok (.iload_n 2, 1) := by decide +kernel
theorem dX7_size_3 : decode cX7_size 3 = .ok (.invokevirtual 169, 3) := by decide +kernel
theorem dX7_size_6 : decode cX7_size 6 = .ok (.istore_n 3, 1) := by decide +kernel
theorem dX7_size_7 : decode cX7_size 7 = .ok (.iload_n 3, 1) := by decide +kernel
theorem dX7_size_8 : decode cX7_size 8 = .ok (.ifCond .eq 5, 3) := by decide +kernel
theorem dX7_size_11 : decode cX7_size 11 = .ok (.iload_n 3, 1) := by decide +kernel
theorem dX7_size_12 : decode cX7_size 12 = .ok (.ireturn, 1) := by decide +kernel
theorem dX7_size_13 : decode cX7_size 13 = .ok (.aload_n 0, 1) := by decide +kernel
theorem dX7_size_14 : decode cX7_size 14 = .ok (.getfield 18, 3) := by decide +kernel
theorem dX7_size_17 : decode cX7_size 17 = .ok (.iload_n 1, 1) := by decide +kernel
theorem dX7_size_18 : decode cX7_size 18 = .ok (.aaload, 1) := by decide +kernel
theorem dX7_size_19 : decode cX7_size 19 = .ok (.getfield 173, 3) := by decide +kernel
theorem dX7_size_22 : decode cX7_size 22 = .ok (.iload_n 2, 1) := by decide +kernel
theorem dX7_size_23 : decode cX7_size 23 = .ok (.iaload, 1) := by decide +kernel
theorem dX7_size_24 : decode cX7_size 24 = .ok (.ireturn, 1) := by decide +kernel
theorem dX7_mean_0 : decode cX7_mean 0 = .ok (.aload_n 0, 1) := by decide +kernel
theorem dX7_mean_1 : decode cX7_mean 1 = .ok (.iload_n 1, 1) := by decide +kernel
theorem dX7_mean_2 : decode cX7_mean 2 = .ok (.iload_n 2, 1) := by decide +kernel
theorem dX7_mean_3 : decode cX7_mean 3 = .ok (.invokevirtual 169, 3) := by decide +kernel
theorem dX7_mean_6 : decode cX7_mean 6 = .ok (.istore 5, 2) := by decide +kernel
theorem dX7_mean_8 : decode cX7_mean 8 = .ok (.iload 5, 2) := by decide +kernel
theorem dX7_mean_10 : decode cX7_mean 10 = .ok (.ifCond .eq 6, 3) := by decide +kernel
theorem dX7_mean_13 : decode cX7_mean 13 = .ok (.iload 5, 2) := by decide +kernel
theorem dX7_mean_15 : decode cX7_mean 15 = .ok (.ireturn, 1) := by decide +kernel
theorem dX7_mean_16 : decode cX7_mean 16 = .ok (.iload_n 3, 1) := by decide +kernel
theorem dX7_mean_17 : decode cX7_mean 17 = .ok (.ifCond .lt 22, 3) := by decide +kernel
theorem dX7_mean_20 : decode cX7_mean 20 = .ok (.iload_n 3, 1) := by decide +kernel
theorem dX7_mean_21 : decode cX7_mean 21 = .ok (.aload_n 0, 1) := by decide +kernel
theorem dX7_mean_22 : decode cX7_mean 22 = .ok (.getfield 10, 3) := by decide +kernel
theorem dX7_mean_25 : decode cX7_mean 25 = .ok (.getfield 64, 3) := by decide +kernel
theorem dX7_mean_28 : decode cX7_mean 28 = .ok (.if_icmp .ge 11, 3) := by decide +kernel
theorem dX7_mean_31 : decode cX7_mean 31 = .ok (.iload 4, 2) := by decide +kernel
theorem dX7_mean_33 : decode cX7_mean 33 = .ok (.invokestatic 176, 3) := by decide +kernel
theorem dX7_mean_36 : decode cX7_mean 36 = .ok (.ifCond .ne 6, 3) := by decide +kernel
theorem dX7_mean_39 : decode cX7_mean 39 = .ok (.ldc 58, 2) := by decide +kernel
theorem dX7_mean_41 : decode cX7_mean 41 = .ok (.ireturn, 1) := by decide +kernel
theorem dX7_mean_42 : decode cX7_mean 42 = .ok (.aload_n 0, 1) := by decide +kernel
theorem dX7_mean_43 : decode cX7_mean 43 = .ok (.aload_n 0, 1) := by decide +kernel
theorem dX7_mean_44 : decode cX7_mean 44 = .ok (.getfield 18, 3) := by decide +kernel
theorem dX7_mean_47 : decode cX7_mean 47 = .ok (.iload_n 1, 1) := by decide +kernel
theorem dX7_mean_48 : decode cX7_mean 48 = .ok (.aaload, 1) := by decide +kernel
theorem dX7_mean_49 : decode cX7_mean 49 = .ok (.iload_n 2, 1) := by decide +kernel
theorem dX7_mean_50 : decode cX7_mean 50 = .ok (.iload_n 3, 1) := by decide +kernel
theorem dX7_mean_51 : decode cX7_mean 51 = .ok (.invokevirtual 179, 3) := by decide +kernel
theorem dX7_mean_54 : decode cX7_mean 54 = .ok (.aload_n 0, 1) := by decide +kernel
theorem dX7_mean_55 : decode cX7_mean 55 = .ok (.getfield 54, 3) := by decide +kernel
theorem dX7_mean_58 : decode cX7_mean 58 = .ok (.iload 4, 2) := by decide +kernel
theorem dX7_mean_60 : decode cX7_mean 60 = .ok (.invokevirtual 183, 3) := by decide +kernel
theorem dX7_mean_63 : decode cX7_mean 63 = .ok (.l2i, 1) := by decide +kernel
theorem dX7_mean_64 : decode cX7_mean 64 = .ok (.ireturn, 1) := by decide +kernel
theorem dX7_sum_0 : decode cX7_sum 0 = .ok (.iload_n 1, 1) := by decide +kernel
theorem dX7_sum_1 : decode cX7_sum 1 = .ok (.invokestatic 100, 3) := by decide +kernel
theorem dX7_sum_4 : decode cX7_sum 4 = .ok (.ifCond .eq 10, 3) := by decide +kernel
theorem dX7_sum_7 : decode cX7_sum 7 = .ok (.iload_n 2, 1) := by decide +kernel
theorem dX7_sum_8 : decode cX7_sum 8 = .ok (.invokestatic 176, 3) := by decide +kernel
theorem dX7_sum_11 : decode cX7_sum 11 = .ok (.ifCond .ne 7, 3) := by decide +kernel
theorem dX7_sum_14 : decode cX7_sum 14 = .ok (.ldc2_w 135, 3) := by decide +kernel
theorem dX7_sum_17 : decode cX7_sum 17 = .ok (.lreturn, 1) := by decide +kernel
theorem dX7_sum_18 : decode cX7_sum 18 = .ok (.aload_n 0, 1) := by decide +kernel
theorem dX7_sum_19 : decode cX7_sum 19 = .ok (.getfield 18, 3) := by decide +kernel
theorem dX7_sum_22 : decode cX7_sum 22 = .ok (.iload_n 1, 1) := by decide +kernel
theorem dX7_sum_23 : decode cX7_sum 23 = .ok (.aaload, 1) := by decide +kernel
theorem dX7_sum_24 : decode cX7_sum 24 = .ok (.invokevirtual 162, 3) := by decide +kernel
theorem dX7_sum_27 : decode cX7_sum 27 = .ok (.ifCond .eq 7, 3) := by decide +kernel
theorem dX7_sum_30 : decode cX7_sum 30 = .ok (.ldc2_w 137, 3) := by decide +kernel
theorem dX7_sum_33 : decode cX7_sum 33 = .ok (.lreturn, 1) := by decide +kernel
theorem dX7_sum_34 : decode cX7_sum 34 = .ok (.aload_n 0, 1) := by decide +kernel
theorem dX7_sum_35 : decode cX7_sum 35 = .ok (.aload_n 0, 1) := by decide +kernel
theorem dX7_sum_36 : decode cX7_sum 36 = .ok (.getfield 18, 3) := by decide +kernel
theorem dX7_sum_39 : decode cX7_sum 39 = .ok (.iload_n 1, 1) := by decide +kernel
theorem dX7_sum_40 : decode cX7_sum 40 = .ok (.aaload, 1) := by decide +kernel
theorem dX7_sum_41 : decode cX7_sum 41 = .ok (.invokevirtual 187, 3) := by decide +kernel
theorem dX7_sum_44 : decode cX7_sum 44 = .ok (.aload_n 0, 1) := by decide +kernel
theorem dX7_sum_45 : decode cX7_sum 45 = .ok (.getfield 54, 3) := by decide +kernel
theorem dX7_sum_48 : decode cX7_sum 48 = .ok (.iload_n 2, 1) := by decide +kernel
theorem dX7_sum_49 : decode cX7_sum 49 = .ok (.invokevirtual 183, 3) := by decide +kernel
theorem dX7_sum_52 : decode cX7_sum 52 = .ok (.lreturn, 1) := by decide +kernel
theorem dX7_well_0 : decode cX7_well 0 = .ok (.aload_n 0, 1) := by decide +kernel
theorem dX7_well_1 : decode cX7_well 1 = .ok (.iload_n 3, 1) := by decide +kernel
theorem dX7_well_2 : decode cX7_well 2 = .ok (.invokevirtual 85, 3) := by decide +kernel
theorem dX7_well_5 : decode cX7_well 5 = .ok (.ifCond .ne 7, 3) := by decide +kernel
theorem dX7_well_8 : decode cX7_well 8 = .ok (.ldc2_w 191, 3) := by decide +kernel
theorem dX7_well_11 : decode cX7_well 11 = .ok (.lreturn, 1) := by decide +kernel
theorem dX7_well_12 : decode cX7_well 12 = .ok (.iload_n 1, 1) := by decide +kernel
theorem dX7_well_13 : decode cX7_well 13 = .ok (.invokestatic 100, 3) := by decide +kernel
theorem dX7_well_16 : decode cX7_well 16 = .ok (.ifCond .eq 18, 3) := by decide +kernel
theorem dX7_well_19 : decode cX7_well 19 = .ok (.iload_n 2, 1) := by decide +kernel
theorem dX7_well_20 : decode cX7_well 20 = .ok (.invokestatic 90, 3) := by decide +kernel
theorem dX7_well_23 : decode cX7_well 23 = .ok (.ifCond .eq 11, 3) := by decide +kernel
theorem dX7_well_26 : decode cX7_well 26 = .ok (.iload 4, 2) := by decide +kernel
theorem dX7_well_28 : decode cX7_well 28 = .ok (.invokestatic 176, 3) := by decide +kernel
theorem dX7_well_31 : decode cX7_well 31 = .ok (.ifCond .ne 7, 3) := by decide +kernel
theorem dX7_well_34 : decode cX7_well 34 = .ok (.ldc2_w 135, 3) := by decide +kernel
theorem dX7_well_37 : decode cX7_well 37 = .ok (.lreturn, 1) := by decide +kernel
theorem dX7_well_38 : decode cX7_well 38 = .ok (.aload_n 0, 1) := by decide +kernel
theorem dX7_well_39 : decode cX7_well 39 = .ok (.getfield 18, 3) := by decide +kernel
theorem dX7_well_42 : decode cX7_well 42 = .ok (.iload_n 1, 1) := by decide +kernel
theorem dX7_well_43 : decode cX7_well 43 = .ok (.aaload, 1) := by decide +kernel
theorem dX7_well_44 : decode cX7_well 44 = .ok (.invokevirtual 162, 3) := by decide +kernel
theorem dX7_well_47 : decode cX7_well 47 = .ok (.ifCond .ne 18, 3) := by decide +kernel
theorem dX7_well_50 : decode cX7_well 50 = .ok (.aload_n 0, 1) := by decide +kernel
theorem dX7_well_51 : decode cX7_well 51 = .ok (.getfield 18, 3) := by decide +kernel
theorem dX7_well_54 : decode cX7_well 54 = .ok (.iload_n 1, 1) := by decide +kernel
theorem dX7_well_55 : decode cX7_well 55 = .ok (.aaload, 1) := by decide +kernel
theorem dX7_well_56 : decode cX7_well 56 = .ok (.getfield 166, 3) := by decide +kernel
theorem dX7_well_59 : decode cX7_well 59 = .ok (.iload_n 3, 1) := by decide +kernel
theorem dX7_well_60 : decode cX7_well 60 = .ok (.iaload, 1) := by decide +kernel
theorem dX7_well_61 : decode cX7_well 61 = .ok (.iconst (-1), 1) := by decide +kernel
theorem dX7_well_62 : decode cX7_well 62 = .ok (.if_icmp .ne 7, 3) := by decide +kernel
theorem dX7_well_65 : decode cX7_well 65 = .ok (.ldc2_w 137, 3) := by decide +kernel
theorem dX7_well_68 : decode cX7_well 68 = .ok (.lreturn, 1) := by decide +kernel
theorem dX7_well_69 : decode cX7_well 69 = .ok (.aload_n 0, 1) := by decide +kernel
theorem dX7_well_70 : decode cX7_well 70 = .ok (.aload_n 0, 1) := by decide +kernel
theorem dX7_well_71 : decode cX7_well 71 = .ok (.getfield 18, 3) := by decide +kernel
theorem dX7_well_74 : decode cX7_well 74 = .ok (.iload_n 1, 1) := by decide +kernel
theorem dX7_well_75 : decode cX7_well 75 = .ok (.aaload, 1) := by decide +kernel
theorem dX7_well_76 : decode cX7_well 76 = .ok (.iload_n 2, 1) := by decide +kernel
theorem dX7_well_77 : decode cX7_well 77 = .ok (.iload_n 3, 1) := by decide +kernel
theorem dX7_well_78 : decode cX7_well 78 = .ok (.invokevirtual 193, 3) := by decide +kernel
theorem dX7_well_81 : decode cX7_well 81 = .ok (.aload_n 0, 1) := by decide +kernel
theorem dX7_well_82 : decode cX7_well 82 = .ok (.getfield 54, 3) := by decide +kernel
theorem dX7_well_85 : decode cX7_well 85 = .ok (.iload 4, 2) := by decide +kernel
theorem dX7_well_87 : decode cX7_well 87 = .ok (.invokevirtual 183, 3) := by decide +kernel
theorem dX7_well_90 : decode cX7_well 90 = .ok (.lreturn, 1) := by decide +kernel
theorem dX7_agree_0 : decode cX7_agree 0 = .ok (.iload_n 1, 1) := by decide +kernel
theorem dX7_agree_1 : decode cX7_agree 1 = .ok (.ifCond .lt 8, 3) := by decide +kernel
theorem dX7_agree_4 : decode cX7_agree 4 = .ok (.iload_n 1, 1) := by decide +kernel
theorem dX7_agree_5 : decode cX7_agree 5 = .ok (.iconst 3, 1) := by decide +kernel
theorem dX7_agree_6 : decode cX7_agree 6 = .ok (.if_icmp .le 6, 3) := by decide +kernel
theorem dX7_agree_9 : decode cX7_agree 9 = .ok (.ldc 58, 2) := by decide +kernel
theorem dX7_agree_11 : decode cX7_agree 11 = .ok (.ireturn, 1) := by decide +kernel
theorem dX7_agree_12 : decode cX7_agree 12 = .ok (.aload_n 0, 1) := by decide +kernel
theorem dX7_agree_13 : decode cX7_agree 13 = .ok (.getfield 18, 3) := by decide +kernel
theorem dX7_agree_16 : decode cX7_agree 16 = .ok (.iconst 0, 1) := by decide +kernel
theorem dX7_agree_17 : decode cX7_agree 17 = .ok (.aaload, 1) := by decide +kernel
theorem dX7_agree_18 : decode cX7_agree 18 = .ok (.invokevirtual 162, 3) := by decide +kernel
theorem dX7_agree_21 : decode cX7_agree 21 = .ok (.ifCond .ne 15, 3) := by decide +kernel
theorem dX7_agree_24 : decode cX7_agree 24 = .ok (.aload_n 0, 1) := by decide +kernel
theorem dX7_agree_25 : decode cX7_agree 25 = .ok (.getfield 18, 3) := by decide +kernel
theorem dX7_agree_28 : decode cX7_agree 28 = .ok (.iconst 1, 1) := by decide +kernel
theorem dX7_agree_29 : decode cX7_agree 29 = .ok (.aaload, 1) := by decide +kernel
theorem dX7_agree_30 : decode cX7_agree 30 = .ok (.invokevirtual 162, 3) := by decide +kernel
theorem dX7_agree_33 : decode cX7_agree 33 = .ok (.ifCond .eq 6, 3) := by decide +kernel
theorem dX7_agree_36 : decode cX7_agree 36 = .ok (.ldc 63, 2) := by decide +kernel
theorem dX7_agree_38 : decode cX7_agree 38 = .ok (.ireturn, 1) := by decide +kernel
theorem dX7_agree_39 : decode cX7_agree 39 = .ok (.iconst 0, 1) := by decide +kernel
theorem dX7_agree_40 : decode cX7_agree 40 = .ok (.istore_n 2, 1) := by decide +kernel
theorem dX7_agree_41 : decode cX7_agree 41 = .ok (.iconst 0, 1) := by decide +kernel
theorem dX7_agree_42 : decode cX7_agree 42 = .ok (.istore_n 3, 1) := by decide +kernel
theorem dX7_agree_43 : decode cX7_agree 43 = .ok (.iload_n 3, 1) := by decide +kernel
theorem dX7_agree_44 : decode cX7_agree 44 = .ok (.aload_n 0, 1) := by decide +kernel
theorem dX7_agree_45 : decode cX7_agree 45 = .ok (.getfield 10, 3) := by decide +kernel
theorem dX7_agree_48 : decode cX7_agree 48 = .ok (.getfield 59, 3) := by decide +kernel
theorem dX7_agree_51 : decode cX7_agree 51 = .ok (.if_icmp .ge 46, 3) := by decide +kernel
theorem dX7_agree_54 : decode cX7_agree 54 = .ok (.iload_n 3, 1) := by decide +kernel
theorem dX7_agree_55 : decode cX7_agree 55 = .ok (.iconst 1, 1) := by decide +kernel
theorem dX7_agree_56 : decode cX7_agree 56 = .ok (.iadd, 1) := by decide +kernel
theorem dX7_agree_57 : decode cX7_agree 57 = .ok (.istore 4, 2) := by decide +kernel
theorem dX7_agree_59 : decode cX7_agree 59 = .ok (.iload 4, 2) := by decide +kernel
theorem dX7_agree_61 : decode cX7_agree 61 = .ok (.aload_n 0, 1) := by decide +kernel
theorem dX7_agree_62 : decode cX7_agree 62 = .ok (.getfield 10, 3) := by decide +kernel
theorem dX7_agree_65 : decode cX7_agree 65 = .ok (.getfield 59, 3) := by decide +kernel
theorem dX7_agree_68 : decode cX7_agree 68 = .ok (.if_icmp .ge 23, 3) := by decide +kernel
theorem dX7_agree_71 : decode cX7_agree 71 = .ok (.aload_n 0, 1) := by decide +kernel
theorem dX7_agree_72 : decode cX7_agree 72 = .ok (.iload_n 3, 1) := by decide +kernel
theorem dX7_agree_73 : decode cX7_agree 73 = .ok (.iload 4, 2) := by decide +kernel
theorem dX7_agree_75 : decode cX7_agree 75 = .ok (.invokevirtual 196, 3) := by decide +kernel
theorem dX7_agree_78 : decode cX7_agree 78 = .ok (.iload_n 1, 1) := by decide +kernel
theorem dX7_agree_79 : decode cX7_agree 79 = .ok (.if_icmp .ne 6, 3) := by decide +kernel
theorem dX7_agree_82 : decode cX7_agree 82 = .ok (.iinc 2 1, 3) := by decide +kernel
theorem dX7_agree_85 : decode cX7_agree 85 = .ok (.iinc 4 1, 3) := by decide +kernel
theorem dX7_agree_88 : decode cX7_agree 88 = .ok (.goto (-29), 3) := by decide +kernel
theorem dX7_agree_91 : decode cX7_agree 91 = .ok (.iinc 3 1, 3) := by decide +kernel
theorem dX7_agree_94 : decode cX7_agree 94 = .ok (.goto (-51), 3) := by decide +kernel
theorem dX7_agree_97 : decode cX7_agree 97 = .ok (.iload_n 2, 1) := by decide +kernel
theorem dX7_agree_98 : decode cX7_agree 98 = .ok (.ireturn, 1) := by decide +kernel
theorem dX7_forgetGroupings_0 : decode cX7_forgetGroupings 0 = .ok (.iconst 0, 1) := by decide +kernel
theorem dX7_forgetGroupings_1 : decode cX7_forgetGroupings 1 = .ok (.istore_n 1, 1) := by decide +kernel
theorem dX7_forgetGroupings_2 : decode cX7_forgetGroupings 2 = .ok (.iload_n 1, 1) := by decide +kernel
theorem dX7_forgetGroupings_3 : decode cX7_forgetGroupings 3 = .ok (.iconst 2, 1) := by decide +kernel
theorem dX7_forgetGroupings_4 : decode cX7_forgetGroupings 4 = .ok (.if_icmp .ge 19, 3) := by decide +kernel
theorem dX7_forgetGroupings_7 : decode cX7_forgetGroupings 7 = .ok (.aload_n 0, 1) := by decide +kernel
theorem dX7_forgetGroupings_8 : decode cX7_forgetGroupings 8 = .ok (.getfield 18, 3) := by decide +kernel
theorem dX7_forgetGroupings_11 : decode cX7_forgetGroupings 11 = .ok (.iload_n 1, 1) := by decide +kernel
theorem dX7_forgetGroupings_12 : decode cX7_forgetGroupings 12 = .ok (.aaload, 1) := by decide +kernel
theorem dX7_forgetGroupings_13 : decode cX7_forgetGroupings 13 = .ok (.iconst (-1), 1) := by decide +kernel
theorem dX7_forgetGroupings_14 : decode cX7_forgetGroupings 14 = .ok (.putfield 79, 3) := by decide +kernel
theorem dX7_forgetGroupings_17 : decode cX7_forgetGroupings 17 = .ok (.iinc 1 1, 3) := by decide +kernel
theorem dX7_forgetGroupings_20 : decode cX7_forgetGroupings 20 = .ok (.goto (-18), 3) := by decide +kernel
theorem dX7_forgetGroupings_23 : decode cX7_forgetGroupings 23 = .ok (.aload_n 0, 1) := by decide +kernel
theorem dX7_forgetGroupings_24 : decode cX7_forgetGroupings 24 = .ok (.getfield 33, 3) := by decide +kernel
theorem dX7_forgetGroupings_27 : decode cX7_forgetGroupings 27 = .ok (.iconst 0, 1) := by decide +kernel
theorem dX7_forgetGroupings_28 : decode cX7_forgetGroupings 28 = .ok (.putfield 120, 3) := by decide +kernel
theorem dX7_forgetGroupings_31 : decode cX7_forgetGroupings 31 = .ok (.aload_n 0, 1) := by decide +kernel
theorem dX7_forgetGroupings_32 : decode cX7_forgetGroupings 32 = .ok (.getfield 47, 3) := by decide +kernel
theorem dX7_forgetGroupings_35 : decode cX7_forgetGroupings 35 = .ok (.iconst (-1), 1) := by decide +kernel
theorem dX7_forgetGroupings_36 : decode cX7_forgetGroupings 36 = .ok (.putfield 82, 3) := by decide +kernel
theorem dX7_forgetGroupings_39 : decode cX7_forgetGroupings 39 = .ok (.return_, 1) := by decide +kernel
theorem dX7_isRow_0 : decode cX7_isRow 0 = .ok (.iload_n 1, 1) := by decide +kernel
theorem dX7_isRow_1 : decode cX7_isRow 1 = .ok (.ifCond .lt 18, 3) := by decide +kernel
theorem dX7_isRow_4 : decode cX7_isRow 4 = .ok (.iload_n 1, 1) := by decide +kernel
theorem dX7_isRow_5 : decode cX7_isRow 5 = .ok (.aload_n 0, 1) := by decide +kernel
theorem dX7_isRow_6 : decode cX7_isRow 6 = .ok (.getfield 10, 3) := by decide +kernel
theorem dX7_isRow_9 : decode cX7_isRow 9 = .ok (.getfield 59, 3) := by decide +kernel
theorem dX7_isRow_12 : decode cX7_isRow 12 = .ok (.if_icmp .ge 7, 3) := by decide +kernel
theorem dX7_isRow_15 : decode cX7_isRow 15 = .ok (.iconst 1, 1) := by decide +kernel
theorem dX7_isRow_16 : decode cX7_isRow 16 = .ok (.goto 4, 3) := by decide +kernel
theorem dX7_isRow_19 : decode cX7_isRow 19 = .ok (.iconst 0, 1) := by decide +kernel
theorem dX7_isRow_20 : decode cX7_isRow 20 = .ok (.ireturn, 1) := by decide +kernel
theorem dX7_isKind_0 : decode cX7_isKind 0 = .ok (.iload_n 0, 1) := by decide +kernel
theorem dX7_isKind_1 : decode cX7_isKind 1 = .ok (.ifCond .lt 12, 3) := by decide +kernel
theorem dX7_isKind_4 : decode cX7_isKind 4 = .ok (.iload_n 0, 1) := by decide +kernel
theorem dX7_isKind_5 : decode cX7_isKind 5 = .ok (.iconst 3, 1) := by decide +kernel
theorem dX7_isKind_6 : decode cX7_isKind 6 = .ok (.if_icmp .ge 7, 3) := by decide +kernel
theorem dX7_isKind_9 : decode cX7_isKind 9 = .ok (.iconst 1, 1) := by decide +kernel
theorem dX7_isKind_10 : decode cX7_isKind 10 = .ok (.goto 4, 3) := by decide +kernel
theorem dX7_isKind_13 : decode cX7_isKind 13 = .ok (.iconst 0, 1) := by decide +kernel
theorem dX7_isKind_14 : decode cX7_isKind 14 = .ok (.ireturn, 1) := by decide +kernel
theorem dX7_isSlot_0 : decode cX7_isSlot 0 = .ok (.iload_n 0, 1) := by decide +kernel
theorem dX7_isSlot_1 : decode cX7_isSlot 1 = .ok (.ifCond .lt 12, 3) := by decide +kernel
theorem dX7_isSlot_4 : decode cX7_isSlot 4 = .ok (.iload_n 0, 1) := by decide +kernel
theorem dX7_isSlot_5 : decode cX7_isSlot 5 = .ok (.iconst 2, 1) := by decide +kernel
theorem dX7_isSlot_6 : decode cX7_isSlot 6 = .ok (.if_icmp .ge 7, 3) := by decide +kernel
theorem dX7_isSlot_9 : decode cX7_isSlot 9 = .ok (.iconst 1, 1) := by decide +kernel
theorem dX7_isSlot_10 : decode cX7_isSlot 10 = .ok (.goto 4, 3) := by decide +kernel
theorem dX7_isSlot_13 : decode cX7_isSlot 13 = .ok (.iconst 0, 1) := by decide +kernel
theorem dX7_isSlot_14 : decode cX7_isSlot 14 = .ok (.ireturn, 1) := by decide +kernel
theorem dX7_isSide_0 : decode cX7_isSide 0 = .ok (.iload_n 0, 1) := by decide +kernel
theorem dX7_isSide_1 : decode cX7_isSide 1 = .ok (.ifCond .lt 12, 3) := by decide +kernel
theorem dX7_isSide_4 : decode cX7_isSide 4 = .ok (.iload_n 0, 1) := by decide +kernel
theorem dX7_isSide_5 : decode cX7_isSide 5 = .ok (.iconst 2, 1) := by decide +kernel
theorem dX7_isSide_6 : decode cX7_isSide 6 = .ok (.if_icmp .ge 7, 3) := by decide +kernel
theorem dX7_isSide_9 : decode cX7_isSide 9 = .ok (.iconst 1, 1) := by decide +kernel
theorem dX7_isSide_10 : decode cX7_isSide 10 = .ok (.goto 4, 3) := by decide +kernel
theorem dX7_isSide_13 : decode cX7_isSide 13 = .ok (.iconst 0, 1) := by decide +kernel
theorem dX7_isSide_14 : decode cX7_isSide 14 = .ok (.ireturn, 1) := by decide +kernel
theorem dX7_refusalOfGroup_0 : decode cX7_refusalOfGroup 0 = .ok (.iload_n 1, 1) := by decide +kernel
theorem dX7_refusalOfGroup_1 : decode cX7_refusalOfGroup 1 = .ok (.invokestatic 100, 3) := by decide +kernel
theorem dX7_refusalOfGroup_4 : decode cX7_refusalOfGroup 4 = .ok (.ifCond .ne 6, 3) := by decide +kernel
theorem dX7_refusalOfGroup_7 : decode cX7_refusalOfGroup 7 = .ok (.ldc 58, 2) := by decide +kernel
theorem dX7_refusalOfGroup_9 : decode cX7_refusalOfGroup 9 = .ok (.ireturn, 1) := by decide +kernel
theorem dX7_refusalOfGroup_10 : decode cX7_refusalOfGroup 10 = .ok (.aload_n 0, 1) := by decide +kernel
theorem dX7_refusalOfGroup_11 : decode cX7_refusalOfGroup 11 = .ok (.getfield 18, 3) := by decide +kernel
theorem dX7_refusalOfGroup_14 : decode cX7_refusalOfGroup 14 = .ok (.iload_n 1, 1) := by decide +kernel
theorem dX7_refusalOfGroup_15 : decode cX7_refusalOfGroup 15 = .ok (.aaload, 1) := by decide +kernel
theorem dX7_refusalOfGroup_16 : decode cX7_refusalOfGroup 16 = .ok (.invokevirtual 162, 3) := by decide +kernel
theorem dX7_refusalOfGroup_19 : decode cX7_refusalOfGroup 19 = .ok (.ifCond .eq 6, 3) := by decide +kernel
theorem dX7_refusalOfGroup_22 : decode cX7_refusalOfGroup 22 = .ok (.ldc 63, 2) := by decide +kernel
theorem dX7_refusalOfGroup_24 : decode cX7_refusalOfGroup 24 = .ok (.ireturn, 1) := by decide +kernel
theorem dX7_refusalOfGroup_25 : decode cX7_refusalOfGroup 25 = .ok (.iload_n 2, 1) := by decide +kernel
theorem dX7_refusalOfGroup_26 : decode cX7_refusalOfGroup 26 = .ok (.ifCond .lt 20, 3) := by decide +kernel
theorem dX7_refusalOfGroup_29 : decode cX7_refusalOfGroup 29 = .ok (.iload_n 2, 1) := by decide +kernel
theorem dX7_refusalOfGroup_30 : decode cX7_refusalOfGroup 30 = .ok (.aload_n 0, 1) := by decide +kernel
theorem dX7_refusalOfGroup_31 : decode cX7_refusalOfGroup 31 = .ok (.getfield 18, 3) := by decide +kernel
theorem dX7_refusalOfGroup_34 : decode cX7_refusalOfGroup 34 = .ok (.iload_n 1, 1) := by decide +kernel
theorem dX7_refusalOfGroup_35 : decode cX7_refusalOfGroup 35 = .ok (.aaload, 1) := by decide +kernel
theorem dX7_refusalOfGroup_36 : decode cX7_refusalOfGroup 36 = .ok (.getfield 79, 3) := by decide +kernel
theorem dX7_refusalOfGroup_39 : decode cX7_refusalOfGroup 39 = .ok (.if_icmp .ge 7, 3) := by decide +kernel
theorem dX7_refusalOfGroup_42 : decode cX7_refusalOfGroup 42 = .ok (.iconst 0, 1) := by decide +kernel
theorem dX7_refusalOfGroup_43 : decode cX7_refusalOfGroup 43 = .ok (.goto 5, 3) := by decide +kernel
theorem dX7_refusalOfGroup_46 : decode cX7_refusalOfGroup 46 = .ok (.ldc 89, 2) := by decide +kernel
theorem dX7_refusalOfGroup_48 : decode cX7_refusalOfGroup 48 = .ok (.ireturn, 1) := by decide +kernel
theorem dX7_reckonMean_0 : decode cX7_reckonMean 0 = .ok (.aload_n 1, 1) := by decide +kernel
theorem dX7_reckonMean_1 : decode cX7_reckonMean 1 = .ok (.getfield 173, 3) := by decide +kernel
theorem dX7_reckonMean_4 : decode cX7_reckonMean 4 = .ok (.iload_n 2, 1) := by decide +kernel
theorem dX7_reckonMean_5 : decode cX7_reckonMean 5 = .ok (.iaload, 1) := by decide +kernel
theorem dX7_reckonMean_6 : decode cX7_reckonMean 6 = .ok (.istore 4, 2) := by decide +kernel
theorem dX7_reckonMean_8 : decode cX7_reckonMean 8 = .ok (.iload 4, 2) := by decide +kernel
theorem dX7_reckonMean_10 : decode cX7_reckonMean 10 = .ok (.ifCond .ne 15, 3) := by decide +kernel
theorem dX7_reckonMean_13 : decode cX7_reckonMean 13 = .ok (.aload_n 0, 1) := by decide +kernel
theorem dX7_reckonMean_14 : decode cX7_reckonMean 14 = .ok (.getfield 54, 3) := by decide +kernel
theorem dX7_reckonMean_17 : decode cX7_reckonMean 17 = .ok (.lconst 0, 1) := by decide +kernel
theorem dX7_reckonMean_18 : decode cX7_reckonMean 18 = .ok (.lconst 1, 1) := by decide +kernel
theorem dX7_reckonMean_19 : decode cX7_reckonMean 19 = .ok (.invokevirtual 199, 3) := by decide +kernel
theorem dX7_reckonMean_22 : decode cX7_reckonMean 22 = .ok (.goto 23, 3) := by decide +kernel
theorem dX7_reckonMean_25 : decode cX7_reckonMean 25 = .ok (.aload_n 0, 1) := by decide +kernel
theorem dX7_reckonMean_26 : decode cX7_reckonMean 26 = .ok (.getfield 54, 3) := by decide +kernel
theorem dX7_reckonMean_29 : decode cX7_reckonMean 29 = .ok (.aload_n 1, 1) := by decide +kernel
theorem dX7_reckonMean_30 : decode cX7_reckonMean 30 = .ok (.aload_n 0, 1) := by decide +kernel
theorem dX7_reckonMean_31 : decode cX7_reckonMean 31 = .ok (.getfield 10, 3) := by decide +kernel
theorem dX7_reckonMean_34 : decode cX7_reckonMean 34 = .ok (.iload_n 2, 1) := by decide +kernel
theorem dX7_reckonMean_35 : decode cX7_reckonMean 35 = .ok (.iload_n 3, 1) := by decide +kernel
theorem dX7_reckonMean_36 : decode cX7_reckonMean 36 = .ok (.invokevirtual 203, 3) := by decide +kernel
theorem dX7_reckonMean_39 : decode cX7_reckonMean 39 = .ok (.iload 4, 2) := by decide +kernel
theorem dX7_reckonMean_41 : decode cX7_reckonMean 41 = .ok (.i2l, 1) := by decide +kernel
theorem dX7_reckonMean_42 : decode cX7_reckonMean 42 = .ok (.invokevirtual 199, 3) := by decide +kernel
theorem dX7_reckonMean_45 : decode cX7_reckonMean 45 = .ok (.return_, 1) := by decide +kernel
theorem dX7_reckonSum_0 : decode cX7_reckonSum 0 = .ok (.aload_n 0, 1) := by decide +kernel
theorem dX7_reckonSum_1 : decode cX7_reckonSum 1 = .ok (.getfield 54, 3) := by decide +kernel
theorem dX7_reckonSum_4 : decode cX7_reckonSum 4 = .ok (.lconst 0, 1) := by decide +kernel
theorem dX7_reckonSum_5 : decode cX7_reckonSum 5 = .ok (.lconst 1, 1) := by decide +kernel
theorem dX7_reckonSum_6 : decode cX7_reckonSum 6 = .ok (.invokevirtual 199, 3) := by decide +kernel
theorem dX7_reckonSum_9 : decode cX7_reckonSum 9 = .ok (.iconst 0, 1) := by decide +kernel
theorem dX7_reckonSum_10 : decode cX7_reckonSum 10 = .ok (.istore_n 2, 1) := by decide +kernel
theorem dX7_reckonSum_11 : decode cX7_reckonSum 11 = .ok (.iload_n 2, 1) := by decide +kernel
theorem dX7_reckonSum_12 : decode cX7_reckonSum 12 = .ok (.aload_n 1, 1) := by decide +kernel
theorem dX7_reckonSum_13 : decode cX7_reckonSum 13 = .ok (.getfield 79, 3) := by decide +kernel
theorem dX7_reckonSum_16 : decode cX7_reckonSum 16 = .ok (.if_icmp .ge 41, 3) := by decide +kernel
theorem dX7_reckonSum_19 : decode cX7_reckonSum 19 = .ok (.aload_n 1, 1) := by decide +kernel
theorem dX7_reckonSum_20 : decode cX7_reckonSum 20 = .ok (.getfield 173, 3) := by decide +kernel
theorem dX7_reckonSum_23 : decode cX7_reckonSum 23 = .ok (.iload_n 2, 1) := by decide +kernel
theorem dX7_reckonSum_24 : decode cX7_reckonSum 24 = .ok (.iaload, 1) := by decide +kernel
theorem dX7_reckonSum_25 : decode cX7_reckonSum 25 = .ok (.ifCond .le 26, 3) := by decide +kernel
theorem dX7_reckonSum_28 : decode cX7_reckonSum 28 = .ok (.aload_n 0, 1) := by decide +kernel
theorem dX7_reckonSum_29 : decode cX7_reckonSum 29 = .ok (.getfield 54, 3) := by decide +kernel
theorem dX7_reckonSum_32 : decode cX7_reckonSum 32 = .ok (.aload_n 1, 1) := by decide +kernel
theorem dX7_reckonSum_33 : decode cX7_reckonSum 33 = .ok (.aload_n 0, 1) := by decide +kernel
theorem dX7_reckonSum_34 : decode cX7_reckonSum 34 = .ok (.getfield 10, 3) := by decide +kernel
theorem dX7_reckonSum_37 : decode cX7_reckonSum 37 = .ok (.iload_n 2, 1) := by decide +kernel
theorem dX7_reckonSum_38 : decode cX7_reckonSum 38 = .ok (.invokevirtual 207, 3) := by decide +kernel
theorem dX7_reckonSum_41 : decode cX7_reckonSum 41 = .ok (.aload_n 1, 1) := by decide +kernel
theorem dX7_reckonSum_42 : decode cX7_reckonSum 42 = .ok (.getfield 173, 3) := by decide +kernel
theorem dX7_reckonSum_45 : decode cX7_reckonSum 45 = .ok (.iload_n 2, 1) := by decide +kernel
theorem dX7_reckonSum_46 : decode cX7_reckonSum 46 = .ok (.iaload, 1) := by decide +kernel
theorem dX7_reckonSum_47 : decode cX7_reckonSum 47 = .ok (.i2l, 1) := by decide +kernel
theorem dX7_reckonSum_48 : decode cX7_reckonSum 48 = .ok (.invokevirtual 211, 3) := by decide +kernel
theorem dX7_reckonSum_51 : decode cX7_reckonSum 51 = .ok (.iinc 2 1, 3) := by decide +kernel
theorem dX7_reckonSum_54 : decode cX7_reckonSum 54 = .ok (.goto (-43), 3) := by decide +kernel
theorem dX7_reckonSum_57 : decode cX7_reckonSum 57 = .ok (.return_, 1) := by decide +kernel
theorem dX7_reckonWell_0 : decode cX7_reckonWell 0 = .ok (.aload_n 1, 1) := by decide +kernel
theorem dX7_reckonWell_1 : decode cX7_reckonWell 1 = .ok (.getfield 166, 3) := by decide +kernel
theorem dX7_reckonWell_4 : decode cX7_reckonWell 4 = .ok (.iload_n 3, 1) := by decide +kernel
theorem dX7_reckonWell_5 : decode cX7_reckonWell 5 = .ok (.iaload, 1) := by decide +kernel
theorem dX7_reckonWell_6 : decode cX7_reckonWell 6 = .ok (.istore 4, 2) := by decide +kernel
theorem dX7_reckonWell_8 : decode cX7_reckonWell 8 = .ok (.aload_n 0, 1) := by decide +kernel
theorem dX7_reckonWell_9 : decode cX7_reckonWell 9 = .ok (.aload_n 1, 1) := by decide +kernel
theorem dX7_reckonWell_10 : decode cX7_reckonWell 10 = .ok (.iload_n 2, 1) := by decide +kernel
theorem dX7_reckonWell_11 : decode cX7_reckonWell 11 = .ok (.iload_n 3, 1) := by decide +kernel
theorem dX7_reckonWell_12 : decode cX7_reckonWell 12 = .ok (.invokevirtual 214, 3) := by decide +kernel
theorem dX7_reckonWell_15 : decode cX7_reckonWell 15 = .ok (.istore 5, 2) := by decide +kernel
theorem dX7_reckonWell_17 : decode cX7_reckonWell 17 = .ok (.iload 5, 2) := by decide +kernel
theorem dX7_reckonWell_19 : decode cX7_reckonWell 19 = .ok (.iconst (-1), 1) := by decide +kernel
theorem dX7_reckonWell_20 : decode cX7_reckonWell 20 = .ok (.if_icmp .eq 14, 3) := by decide +kernel
theorem dX7_reckonWell_23 : decode cX7_reckonWell 23 = .ok (.aload_n 1, 1) := by decide +kernel
theorem dX7_reckonWell_24 : decode cX7_reckonWell 24 = .ok (.getfield 173, 3) := by decide +kernel
theorem dX7_reckonWell_27 : decode cX7_reckonWell 27 = .ok (.iload 4, 2) := by decide +kernel
theorem dX7_reckonWell_29 : decode cX7_reckonWell 29 = .ok (.iaload, 1) := by decide +kernel
theorem dX7_reckonWell_30 : decode cX7_reckonWell 30 = .ok (.iconst 2, 1) := by decide +kernel
theorem dX7_reckonWell_31 : decode cX7_reckonWell 31 = .ok (.if_icmp .ge 13, 3) := by decide +kernel
theorem dX7_reckonWell_34 : decode cX7_reckonWell 34 = .ok (.aload_n 0, 1) := by decide +kernel
theorem dX7_reckonWell_35 : decode cX7_reckonWell 35 = .ok (.getfield 54, 3) := by decide +kernel
theorem dX7_reckonWell_38 : decode cX7_reckonWell 38 = .ok (.lconst 0, 1) := by decide +kernel
theorem dX7_reckonWell_39 : decode cX7_reckonWell 39 = .ok (.lconst 1, 1) := by decide +kernel
theorem dX7_reckonWell_40 : decode cX7_reckonWell 40 = .ok (.invokevirtual 199, 3) := by decide +kernel
theorem dX7_reckonWell_43 : decode cX7_reckonWell 43 = .ok (.return_, 1) := by decide +kernel
theorem dX7_reckonWell_44 : decode cX7_reckonWell 44 = .ok (.aload_n 1, 1) := by decide +kernel
theorem dX7_reckonWell_45 : decode cX7_reckonWell 45 = .ok (.aload_n 0, 1) := by decide +kernel
theorem dX7_reckonWell_46 : decode cX7_reckonWell 46 = .ok (.getfield 10, 3) := by decide +kernel
theorem dX7_reckonWell_49 : decode cX7_reckonWell 49 = .ok (.iload_n 2, 1) := by decide +kernel
theorem dX7_reckonWell_50 : decode cX7_reckonWell 50 = .ok (.iload_n 3, 1) := by decide +kernel
theorem dX7_reckonWell_51 : decode cX7_reckonWell 51 = .ok (.iload 4, 2) := by decide +kernel
theorem dX7_reckonWell_53 : decode cX7_reckonWell 53 = .ok (.invokevirtual 218, 3) := by decide +kernel
theorem dX7_reckonWell_56 : decode cX7_reckonWell 56 = .ok (.aload_n 1, 1) := by decide +kernel
theorem dX7_reckonWell_57 : decode cX7_reckonWell 57 = .ok (.getfield 173, 3) := by decide +kernel
theorem dX7_reckonWell_60 : decode cX7_reckonWell 60 = .ok (.iload 5, 2) := by decide +kernel
theorem dX7_reckonWell_62 : decode cX7_reckonWell 62 = .ok (.iaload, 1) := by decide +kernel
theorem dX7_reckonWell_63 : decode cX7_reckonWell 63 = .ok (.i2l, 1) := by decide +kernel
theorem dX7_reckonWell_64 : decode cX7_reckonWell 64 = .ok (.lmul, 1) := by decide +kernel
theorem dX7_reckonWell_65 : decode cX7_reckonWell 65 = .ok (.lstore 6, 2) := by decide +kernel
theorem dX7_reckonWell_67 : decode cX7_reckonWell 67 = .ok (.aload_n 1, 1) := by decide +kernel
theorem dX7_reckonWell_68 : decode cX7_reckonWell 68 = .ok (.aload_n 0, 1) := by decide +kernel
theorem dX7_reckonWell_69 : decode cX7_reckonWell 69 = .ok (.getfield 10, 3) := by decide +kernel
theorem dX7_reckonWell_72 : decode cX7_reckonWell 72 = .ok (.iload_n 2, 1) := by decide +kernel
theorem dX7_reckonWell_73 : decode cX7_reckonWell 73 = .ok (.iload_n 3, 1) := by decide +kernel
theorem dX7_reckonWell_74 : decode cX7_reckonWell 74 = .ok (.iload 5, 2) := by decide +kernel
theorem dX7_reckonWell_76 : decode cX7_reckonWell 76 = .ok (.invokevirtual 218, 3) := by decide +kernel
theorem dX7_reckonWell_79 : decode cX7_reckonWell 79 = .ok (.aload_n 1, 1) := by decide +kernel
theorem dX7_reckonWell_80 : decode cX7_reckonWell 80 = .ok (.getfield 173, 3) := by decide +kernel
theorem dX7_reckonWell_83 : decode cX7_reckonWell 83 = .ok (.iload 4, 2) := by decide +kernel
theorem dX7_reckonWell_85 : decode cX7_reckonWell 85 = .ok (.iaload, 1) := by decide +kernel
theorem dX7_reckonWell_86 : decode cX7_reckonWell 86 = .ok (.iconst 1, 1) := by decide +kernel
theorem dX7_reckonWell_87 : decode cX7_reckonWell 87 = .ok (.isub, 1) := by decide +kernel
theorem dX7_reckonWell_88 : decode cX7_reckonWell 88 = .ok (.i2l, 1) := by decide +kernel
theorem dX7_reckonWell_89 : decode cX7_reckonWell 89 = .ok (.lmul, 1) := by decide +kernel
theorem dX7_reckonWell_90 : decode cX7_reckonWell 90 = .ok (.lstore 8, 2) := by decide +kernel
theorem dX7_reckonWell_92 : decode cX7_reckonWell 92 = .ok (.lload 6, 2) := by decide +kernel
theorem dX7_reckonWell_94 : decode cX7_reckonWell 94 = .ok (.lload 8, 2) := by decide +kernel
theorem dX7_reckonWell_96 : decode cX7_reckonWell 96 = .ok (.invokestatic 222, 3) := by decide +kernel
theorem dX7_reckonWell_99 : decode cX7_reckonWell 99 = .ok (.lstore 10, 2) := by decide +kernel
theorem dX7_reckonWell_101 : decode cX7_reckonWell 101 = .ok (.lload 10, 2) := by decide +kernel
theorem dX7_reckonWell_103 : decode cX7_reckonWell 103 = .ok (.lconst 0, 1) := by decide +kernel
theorem dX7_reckonWell_104 : decode cX7_reckonWell 104 = .ok (.lcmp, 1) := by decide +kernel
theorem dX7_reckonWell_105 : decode cX7_reckonWell 105 = .ok (.ifCond .ne 15, 3) := by decide +kernel
theorem dX7_reckonWell_108 : decode cX7_reckonWell 108 = .ok (.aload_n 0, 1) := by decide +kernel
theorem dX7_reckonWell_109 : decode cX7_reckonWell 109 = .ok (.getfield 54, 3) := by decide +kernel
theorem dX7_reckonWell_112 : decode cX7_reckonWell 112 = .ok (.lconst 0, 1) := by decide +kernel
theorem dX7_reckonWell_113 : decode cX7_reckonWell 113 = .ok (.lconst 1, 1) := by decide +kernel
theorem dX7_reckonWell_114 : decode cX7_reckonWell 114 = .ok (.invokevirtual 199, 3) := by decide +kernel
theorem dX7_reckonWell_117 : decode cX7_reckonWell 117 = .ok (.goto 17, 3) := by decide +kernel
theorem dX7_reckonWell_120 : decode cX7_reckonWell 120 = .ok (.aload_n 0, 1) := by decide +kernel
theorem dX7_reckonWell_121 : decode cX7_reckonWell 121 = .ok (.getfield 54, 3) := by decide +kernel
theorem dX7_reckonWell_124 : decode cX7_reckonWell 124 = .ok (.lload 8, 2) := by decide +kernel
theorem dX7_reckonWell_126 : decode cX7_reckonWell 126 = .ok (.lload 6, 2) := by decide +kernel
theorem dX7_reckonWell_128 : decode cX7_reckonWell 128 = .ok (.lsub, 1) := by decide +kernel
theorem dX7_reckonWell_129 : decode cX7_reckonWell 129 = .ok (.lload 10, 2) := by decide +kernel
theorem dX7_reckonWell_131 : decode cX7_reckonWell 131 = .ok (.invokevirtual 199, 3) := by decide +kernel
theorem dX7_reckonWell_134 : decode cX7_reckonWell 134 = .ok (.return_, 1) := by decide +kernel
theorem dX7_nearestOtherGroup_0 : decode cX7_nearestOtherGroup 0 = .ok (.iconst (-1), 1) := by decide +kernel
theorem dX7_nearestOtherGroup_1 : decode cX7_nearestOtherGroup 1 = .ok (.istore 4, 2) := by decide +kernel
theorem dX7_nearestOtherGroup_3 : decode cX7_nearestOtherGroup 3 = .ok (.lconst 0, 1) := by decide +kernel
theorem dX7_nearestOtherGroup_4 : decode cX7_nearestOtherGroup 4 = .ok (.lstore 5, 2) := by decide +kernel
theorem dX7_nearestOtherGroup_6 : decode cX7_nearestOtherGroup 6 = .ok (.lconst 1, 1) := by decide +kernel
theorem dX7_nearestOtherGroup_7 : decode cX7_nearestOtherGroup 7 = .ok (.lstore 7, 2) := by decide +kernel
theorem dX7_nearestOtherGroup_9 : decode cX7_nearestOtherGroup 9 = .ok (.iconst 0, 1) := by decide +kernel
theorem dX7_nearestOtherGroup_10 : decode cX7_nearestOtherGroup 10 = .ok (.istore 9, 2) := by decide +kernel
theorem dX7_nearestOtherGroup_12 : decode cX7_nearestOtherGroup 12 = .ok (.iload 9, 2) := by decide +kernel
theorem dX7_nearestOtherGroup_14 : decode cX7_nearestOtherGroup 14 = .ok (.aload_n 1, 1) := by decide +kernel
theorem dX7_nearestOtherGroup_15 : decode cX7_nearestOtherGroup 15 = .ok (.getfield 79, 3) := by decide +kernel
theorem dX7_nearestOtherGroup_18 : decode cX7_nearestOtherGroup 18 = .ok (.if_icmp .ge 88, 3) := by decide +kernel
theorem dX7_nearestOtherGroup_21 : decode cX7_nearestOtherGroup 21 = .ok (.iload 9, 2) := by decide +kernel
theorem dX7_nearestOtherGroup_23 : decode cX7_nearestOtherGroup 23 = .ok (.aload_n 1, 1) := by decide +kernel
theorem dX7_nearestOtherGroup_24 : decode cX7_nearestOtherGroup 24 = .ok (.getfield 166, 3) := by decide +kernel
theorem dX7_nearestOtherGroup_27 : decode cX7_nearestOtherGroup 27 = .ok (.iload_n 3, 1) := by decide +kernel
theorem dX7_nearestOtherGroup_28 : decode cX7_nearestOtherGroup 28 = .ok (.iaload, 1) := by decide +kernel
theorem dX7_nearestOtherGroup_29 : decode cX7_nearestOtherGroup 29 = .ok (.if_icmp .eq 71, 3) := by decide +kernel
theorem dX7_nearestOtherGroup_32 : decode cX7_nearestOtherGroup 32 = .ok (.aload_n 1, 1) := by decide +kernel
theorem dX7_nearestOtherGroup_33 : decode cX7_nearestOtherGroup 33 = .ok (.getfield 173, 3) := by decide +kernel
theorem dX7_nearestOtherGroup_36 : decode cX7_nearestOtherGroup 36 = .ok (.iload 9, 2) := by decide +kernel
theorem dX7_nearestOtherGroup_38 : decode cX7_nearestOtherGroup 38 = .ok (.iaload, 1) := by decide +kernel
theorem dX7_nearestOtherGroup_39 : decode cX7_nearestOtherGroup 39 = .ok (.ifCond .le 61, 3) := by decide +kernel
theorem dX7_nearestOtherGroup_42 : decode cX7_nearestOtherGroup 42 = .ok (.aload_n 1, 1) := by decide +kernel
theorem dX7_nearestOtherGroup_43 : decode cX7_nearestOtherGroup 43 = .ok (.aload_n 0, 1) := by decide +kernel
theorem dX7_nearestOtherGroup_44 : decode cX7_nearestOtherGroup 44 = .ok (.getfield 10, 3) := by decide +kernel
theorem dX7_nearestOtherGroup_47 : decode cX7_nearestOtherGroup 47 = .ok (.iload_n 2, 1) := by decide +kernel
theorem dX7_nearestOtherGroup_48 : decode cX7_nearestOtherGroup 48 = .ok (.iload_n 3, 1) := by decide +kernel
theorem dX7_nearestOtherGroup_49 : decode cX7_nearestOtherGroup 49 = .ok (.iload 9, 2) := by decide +kernel
theorem dX7_nearestOtherGroup_51 : decode cX7_nearestOtherGroup 51 = .ok (.invokevirtual 218, 3) := by decide +kernel
theorem dX7_nearestOtherGroup_54 : decode cX7_nearestOtherGroup 54 = .ok (.lstore 10, 2) := by decide +kernel
theorem dX7_nearestOtherGroup_56 : decode cX7_nearestOtherGroup 56 = .ok (.iload 4, 2) := by decide +kernel
theorem dX7_nearestOtherGroup_58 : decode cX7_nearestOtherGroup 58 = .ok (.iconst (-1), 1) := by decide +kernel
theorem dX7_nearestOtherGroup_59 : decode cX7_nearestOtherGroup 59 = .ok (.if_icmp .eq 23, 3) := by decide +kernel
theorem dX7_nearestOtherGroup_62 : decode cX7_nearestOtherGroup 62 = .ok (.lload 10, 2) := by decide +kernel
theorem dX7_nearestOtherGroup_64 : decode cX7_nearestOtherGroup 64 = .ok (.aload_n 1, 1) := by decide +kernel
theorem dX7_nearestOtherGroup_65 : decode cX7_nearestOtherGroup 65 = .ok (.getfield 173, 3) := by decide +kernel
theorem dX7_nearestOtherGroup_68 : decode cX7_nearestOtherGroup 68 = .ok (.iload 9, 2) := by decide +kernel
theorem dX7_nearestOtherGroup_70 : decode cX7_nearestOtherGroup 70 = .ok (.iaload, 1) := by decide +kernel
theorem dX7_nearestOtherGroup_71 : decode cX7_nearestOtherGroup 71 = .ok (.i2l, 1) := by decide +kernel
theorem dX7_nearestOtherGroup_72 : decode cX7_nearestOtherGroup 72 = .ok (.lload 5, 2) := by decide +kernel
theorem dX7_nearestOtherGroup_74 : decode cX7_nearestOtherGroup 74 = .ok (.lload 7, 2) := by decide +kernel
theorem dX7_nearestOtherGroup_76 : decode cX7_nearestOtherGroup 76 = .ok (.invokestatic 228, 3) := by decide +kernel
theorem dX7_nearestOtherGroup_79 : decode cX7_nearestOtherGroup 79 = .ok (.ifCond .eq 21, 3) := by decide +kernel
theorem dX7_nearestOtherGroup_82 : decode cX7_nearestOtherGroup 82 = .ok (.iload 9, 2) := by decide +kernel
theorem dX7_nearestOtherGroup_84 : decode cX7_nearestOtherGroup 84 = .ok (.istore 4, 2) := by decide +kernel
theorem dX7_nearestOtherGroup_86 : decode cX7_nearestOtherGroup 86 = .ok (.lload 10, 2) := by decide +kernel
theorem dX7_nearestOtherGroup_88 : decode cX7_nearestOtherGroup 88 = .ok (.lstore 5, 2) := by decide +kernel
theorem dX7_nearestOtherGroup_90 : decode cX7_nearestOtherGroup 90 = .ok (.aload_n 1, 1) := by decide +kernel
theorem dX7_nearestOtherGroup_91 : decode cX7_nearestOtherGroup 91 = .ok (.getfield 173, 3) := by decide +kernel
theorem dX7_nearestOtherGroup_94 : decode cX7_nearestOtherGroup 94 = .ok (.iload 9, 2) := by decide +kernel
theorem dX7_nearestOtherGroup_96 : decode cX7_nearestOtherGroup 96 = .ok (.iaload, 1) := by decide +kernel
theorem dX7_nearestOtherGroup_97 : decode cX7_nearestOtherGroup 97 = .ok (.i2l, 1) := by decide +kernel
theorem dX7_nearestOtherGroup_98 : decode cX7_nearestOtherGroup 98 = .ok (.lstore 7, 2) := by decide +kernel
theorem dX7_nearestOtherGroup_100 : decode cX7_nearestOtherGroup 100 = .ok (.iinc 9 1, 3) := by decide +kernel
theorem dX7_nearestOtherGroup_103 : decode cX7_nearestOtherGroup 103 = .ok (.goto (-91), 3) := by decide +kernel
theorem dX7_nearestOtherGroup_106 : decode cX7_nearestOtherGroup 106 = .ok (.iload 4, 2) := by decide +kernel
theorem dX7_nearestOtherGroup_108 : decode cX7_nearestOtherGroup 108 = .ok (.ireturn, 1) := by decide +kernel
theorem dX7_agreementOf_0 : decode cX7_agreementOf 0 = .ok (.aload_n 0, 1) := by decide +kernel
theorem dX7_agreementOf_1 : decode cX7_agreementOf 1 = .ok (.getfield 18, 3) := by decide +kernel
theorem dX7_agreementOf_4 : decode cX7_agreementOf 4 = .ok (.iconst 0, 1) := by decide +kernel
theorem dX7_agreementOf_5 : decode cX7_agreementOf 5 = .ok (.aaload, 1) := by decide +kernel
theorem dX7_agreementOf_6 : decode cX7_agreementOf 6 = .ok (.iload_n 1, 1) := by decide +kernel
theorem dX7_agreementOf_7 : decode cX7_agreementOf 7 = .ok (.iload_n 2, 1) := by decide +kernel
theorem dX7_agreementOf_8 : decode cX7_agreementOf 8 = .ok (.invokevirtual 232, 3) := by decide +kernel
theorem dX7_agreementOf_11 : decode cX7_agreementOf 11 = .ok (.ifCond .eq 17, 3) := by decide +kernel
theorem dX7_agreementOf_14 : decode cX7_agreementOf 14 = .ok (.aload_n 0, 1) := by decide +kernel
theorem dX7_agreementOf_15 : decode cX7_agreementOf 15 = .ok (.getfield 18, 3) := by decide +kernel
theorem dX7_agreementOf_18 : decode cX7_agreementOf 18 = .ok (.iconst 1, 1) := by decide +kernel
theorem dX7_agreementOf_19 : decode cX7_agreementOf 19 = .ok (.aaload, 1) := by decide +kernel
theorem dX7_agreementOf_20 : decode cX7_agreementOf 20 = .ok (.iload_n 1, 1) := by decide +kernel
theorem dX7_agreementOf_21 : decode cX7_agreementOf 21 = .ok (.iload_n 2, 1) := by decide +kernel
theorem dX7_agreementOf_22 : decode cX7_agreementOf 22 = .ok (.invokevirtual 232, 3) := by decide +kernel
theorem dX7_agreementOf_25 : decode cX7_agreementOf 25 = .ok (.ifCond .ne 5, 3) := by decide +kernel
theorem dX7_agreementOf_28 : decode cX7_agreementOf 28 = .ok (.iconst (-1), 1) := by decide +kernel
theorem dX7_agreementOf_29 : decode cX7_agreementOf 29 = .ok (.ireturn, 1) := by decide +kernel
theorem dX7_agreementOf_30 : decode cX7_agreementOf 30 = .ok (.aload_n 0, 1) := by decide +kernel
theorem dX7_agreementOf_31 : decode cX7_agreementOf 31 = .ok (.getfield 18, 3) := by decide +kernel
theorem dX7_agreementOf_34 : decode cX7_agreementOf 34 = .ok (.iconst 0, 1) := by decide +kernel
theorem dX7_agreementOf_35 : decode cX7_agreementOf 35 = .ok (.aaload, 1) := by decide +kernel
theorem dX7_agreementOf_36 : decode cX7_agreementOf 36 = .ok (.getfield 166, 3) := by decide +kernel
theorem dX7_agreementOf_39 : decode cX7_agreementOf 39 = .ok (.iload_n 1, 1) := by decide +kernel
theorem dX7_agreementOf_40 : decode cX7_agreementOf 40 = .ok (.iaload, 1) := by decide +kernel
theorem dX7_agreementOf_41 : decode cX7_agreementOf 41 = .ok (.aload_n 0, 1) := by decide +kernel
theorem dX7_agreementOf_42 : decode cX7_agreementOf 42 = .ok (.getfield 18, 3) := by decide +kernel
theorem dX7_agreementOf_45 : decode cX7_agreementOf 45 = .ok (.iconst 0, 1) := by decide +kernel
theorem dX7_agreementOf_46 : decode cX7_agreementOf 46 = .ok (.aaload, 1) := by decide +kernel
theorem dX7_agreementOf_47 : decode cX7_agreementOf 47 = .ok (.getfield 166, 3) := by decide +kernel
theorem dX7_agreementOf_50 : decode cX7_agreementOf 50 = .ok (.iload_n 2, 1) := by decide +kernel
theorem dX7_agreementOf_51 : decode cX7_agreementOf 51 = .ok (.iaload, 1) := by decide +kernel
theorem dX7_agreementOf_52 : decode cX7_agreementOf 52 = .ok (.if_icmp .ne 7, 3) := by decide +kernel
theorem dX7_agreementOf_55 : decode cX7_agreementOf 55 = .ok (.iconst 1, 1) := by decide +kernel
theorem dX7_agreementOf_56 : decode cX7_agreementOf 56 = .ok (.goto 4, 3) := by decide +kernel
theorem dX7_agreementOf_59 : decode cX7_agreementOf 59 = .ok (.iconst 0, 1) := by decide +kernel
theorem dX7_agreementOf_60 : decode cX7_agreementOf 60 = .ok (.istore_n 3, 1) := by decide +kernel
theorem dX7_agreementOf_61 : decode cX7_agreementOf 61 = .ok (.aload_n 0, 1) := by decide +kernel
theorem dX7_agreementOf_62 : decode cX7_agreementOf 62 = .ok (.getfield 18, 3) := by decide +kernel
theorem dX7_agreementOf_65 : decode cX7_agreementOf 65 = .ok (.iconst 1, 1) := by decide +kernel
theorem dX7_agreementOf_66 : decode cX7_agreementOf 66 = .ok (.aaload, 1) := by decide +kernel
theorem dX7_agreementOf_67 : decode cX7_agreementOf 67 = .ok (.getfield 166, 3) := by decide +kernel
theorem dX7_agreementOf_70 : decode cX7_agreementOf 70 = .ok (.iload_n 1, 1) := by decide +kernel
theorem dX7_agreementOf_71 : decode cX7_agreementOf 71 = .ok (.iaload, 1) := by decide +kernel
theorem dX7_agreementOf_72 : decode cX7_agreementOf 72 = .ok (.aload_n 0, 1) := by decide +kernel
theorem dX7_agreementOf_73 : decode cX7_agreementOf 73 = .ok (.getfield 18, 3) := by decide +kernel
theorem dX7_agreementOf_76 : decode cX7_agreementOf 76 = .ok (.iconst 1, 1) := by decide +kernel
theorem dX7_agreementOf_77 : decode cX7_agreementOf 77 = .ok (.aaload, 1) := by decide +kernel
theorem dX7_agreementOf_78 : decode cX7_agreementOf 78 = .ok (.getfield 166, 3) := by decide +kernel
theorem dX7_agreementOf_81 : decode cX7_agreementOf 81 = .ok (.iload_n 2, 1) := by decide +kernel
theorem dX7_agreementOf_82 : decode cX7_agreementOf 82 = .ok (.iaload, 1) := by decide +kernel
theorem dX7_agreementOf_83 : decode cX7_agreementOf 83 = .ok (.if_icmp .ne 7, 3) := by decide +kernel
theorem dX7_agreementOf_86 : decode cX7_agreementOf 86 = .ok (.iconst 1, 1) := by decide +kernel
theorem dX7_agreementOf_87 : decode cX7_agreementOf 87 = .ok (.goto 4, 3) := by decide +kernel
theorem dX7_agreementOf_90 : decode cX7_agreementOf 90 = .ok (.iconst 0, 1) := by decide +kernel
theorem dX7_agreementOf_91 : decode cX7_agreementOf 91 = .ok (.istore 4, 2) := by decide +kernel
theorem dX7_agreementOf_93 : decode cX7_agreementOf 93 = .ok (.iload_n 3, 1) := by decide +kernel
theorem dX7_agreementOf_94 : decode cX7_agreementOf 94 = .ok (.ifCond .eq 14, 3) := by decide +kernel
theorem dX7_agreementOf_97 : decode cX7_agreementOf 97 = .ok (.iload 4, 2) := by decide +kernel
theorem dX7_agreementOf_99 : decode cX7_agreementOf 99 = .ok (.ifCond .eq 7, 3) := by decide +kernel
theorem dX7_agreementOf_102 : decode cX7_agreementOf 102 = .ok (.iconst 0, 1) := by decide +kernel
theorem dX7_agreementOf_103 : decode cX7_agreementOf 103 = .ok (.goto 4, 3) := by decide +kernel
theorem dX7_agreementOf_106 : decode cX7_agreementOf 106 = .ok (.iconst 1, 1) := by decide +kernel
theorem dX7_agreementOf_107 : decode cX7_agreementOf 107 = .ok (.ireturn, 1) := by decide +kernel
theorem dX7_agreementOf_108 : decode cX7_agreementOf 108 = .ok (.iload 4, 2) := by decide +kernel
theorem dX7_agreementOf_110 : decode cX7_agreementOf 110 = .ok (.ifCond .eq 7, 3) := by decide +kernel
theorem dX7_agreementOf_113 : decode cX7_agreementOf 113 = .ok (.iconst 2, 1) := by decide +kernel
theorem dX7_agreementOf_114 : decode cX7_agreementOf 114 = .ok (.goto 4, 3) := by decide +kernel
theorem dX7_agreementOf_117 : decode cX7_agreementOf 117 = .ok (.iconst 3, 1) := by decide +kernel
theorem dX7_agreementOf_118 : decode cX7_agreementOf 118 = .ok (.ireturn, 1) := by decide +kernel
theorem dX7_isLess_0 : decode cX7_isLess 0 = .ok (.lload_n 0, 1) := by decide +kernel
theorem dX7_isLess_1 : decode cX7_isLess 1 = .ok (.lload 6, 2) := by decide +kernel
theorem dX7_isLess_3 : decode cX7_isLess 3 = .ok (.lmul, 1) := by decide +kernel
theorem dX7_isLess_4 : decode cX7_isLess 4 = .ok (.lload 4, 2) := by decide +kernel
theorem dX7_isLess_6 : decode cX7_isLess 6 = .ok (.lload_n 2, 1) := by decide +kernel
theorem dX7_isLess_7 : decode cX7_isLess 7 = .ok (.lmul, 1) := by decide +kernel
theorem dX7_isLess_8 : decode cX7_isLess 8 = .ok (.lcmp, 1) := by decide +kernel
theorem dX7_isLess_9 : decode cX7_isLess 9 = .ok (.ifCond .ge 7, 3) := by decide +kernel
theorem dX7_isLess_12 : decode cX7_isLess 12 = .ok (.iconst 1, 1) := by decide +kernel
theorem dX7_isLess_13 : decode cX7_isLess 13 = .ok (.goto 4, 3) := by decide +kernel
theorem dX7_isLess_16 : decode cX7_isLess 16 = .ok (.iconst 0, 1) := by decide +kernel
theorem dX7_isLess_17 : decode cX7_isLess 17 = .ok (.ireturn, 1) := by decide +kernel
