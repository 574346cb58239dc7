-- what each instruction decodes to (written by wip/whole/gen_nam.py)
theorem d_Van_init_0 : decode M_Van_init.2.1 0 = .ok (.aload_n 0, 1) := by decide +kernel
theorem d_Van_init_1 : decode M_Van_init.2.1 1 = .ok (.invokespecial 3, 3) := by decide +kernel
theorem d_Van_init_4 : decode M_Van_init.2.1 4 = .ok (.aload_n 0, 1) := by decide +kernel
theorem d_Van_init_5 : decode M_Van_init.2.1 5 = .ok (.new 9, 3) := by decide +kernel
theorem d_Van_init_8 : decode M_Van_init.2.1 8 = .ok (.dup, 1) := by decide +kernel
theorem d_Van_init_9 : decode M_Van_init.2.1 9 = .ok (.invokespecial 11, 3) := by decide +kernel
theorem d_Van_init_12 : decode M_Van_init.2.1 12 = .ok (.putfield 12, 3) := by decide +kernel
theorem d_Van_init_15 : decode M_Van_init.2.1 15 = .ok (.aload_n 0, 1) := by decide +kernel
theorem d_Van_init_16 : decode M_Van_init.2.1 16 = .ok (.aload_n 0, 1) := by decide +kernel
theorem d_Van_init_17 : decode M_Van_init.2.1 17 = .ok (.getfield 12, 3) := by decide +kernel
theorem d_Van_init_20 : decode M_Van_init.2.1 20 = .ok (.getfield 16, 3) := by decide +kernel
theorem d_Van_init_23 : decode M_Van_init.2.1 23 = .ok (.putfield 20, 3) := by decide +kernel
theorem d_Van_init_26 : decode M_Van_init.2.1 26 = .ok (.aload_n 0, 1) := by decide +kernel
theorem d_Van_init_27 : decode M_Van_init.2.1 27 = .ok (.aload_n 0, 1) := by decide +kernel
theorem d_Van_init_28 : decode M_Van_init.2.1 28 = .ok (.getfield 12, 3) := by decide +kernel
theorem d_Van_init_31 : decode M_Van_init.2.1 31 = .ok (.getfield 21, 3) := by decide +kernel
theorem d_Van_init_34 : decode M_Van_init.2.1 34 = .ok (.putfield 25, 3) := by decide +kernel
theorem d_Van_init_37 : decode M_Van_init.2.1 37 = .ok (.aload_n 0, 1) := by decide +kernel
theorem d_Van_init_38 : decode M_Van_init.2.1 38 = .ok (.aload_n 0, 1) := by decide +kernel
theorem d_Van_init_39 : decode M_Van_init.2.1 39 = .ok (.getfield 25, 3) := by decide +kernel
theorem d_Van_init_42 : decode M_Van_init.2.1 42 = .ok (.getfield 26, 3) := by decide +kernel
theorem d_Van_init_45 : decode M_Van_init.2.1 45 = .ok (.putfield 32, 3) := by decide +kernel
theorem d_Van_init_48 : decode M_Van_init.2.1 48 = .ok (.aload_n 0, 1) := by decide +kernel
theorem d_Van_init_49 : decode M_Van_init.2.1 49 = .ok (.aload_n 0, 1) := by decide +kernel
theorem d_Van_init_50 : decode M_Van_init.2.1 50 = .ok (.getfield 25, 3) := by decide +kernel
theorem d_Van_init_53 : decode M_Van_init.2.1 53 = .ok (.getfield 33, 3) := by decide +kernel
theorem d_Van_init_56 : decode M_Van_init.2.1 56 = .ok (.putfield 37, 3) := by decide +kernel
theorem d_Van_init_59 : decode M_Van_init.2.1 59 = .ok (.aload_n 0, 1) := by decide +kernel
theorem d_Van_init_60 : decode M_Van_init.2.1 60 = .ok (.aload_n 0, 1) := by decide +kernel
theorem d_Van_init_61 : decode M_Van_init.2.1 61 = .ok (.getfield 25, 3) := by decide +kernel
theorem d_Van_init_64 : decode M_Van_init.2.1 64 = .ok (.getfield 38, 3) := by decide +kernel
theorem d_Van_init_67 : decode M_Van_init.2.1 67 = .ok (.putfield 42, 3) := by decide +kernel
theorem d_Van_init_70 : decode M_Van_init.2.1 70 = .ok (.aload_n 0, 1) := by decide +kernel
theorem d_Van_init_71 : decode M_Van_init.2.1 71 = .ok (.new 43, 3) := by decide +kernel
theorem d_Van_init_74 : decode M_Van_init.2.1 74 = .ok (.dup, 1) := by decide +kernel
theorem d_Van_init_75 : decode M_Van_init.2.1 75 = .ok (.invokespecial 45, 3) := by decide +kernel
theorem d_Van_init_78 : decode M_Van_init.2.1 78 = .ok (.putfield 46, 3) := by decide +kernel
theorem d_Van_init_81 : decode M_Van_init.2.1 81 = .ok (.aload_n 0, 1) := by decide +kernel
theorem d_Van_init_82 : decode M_Van_init.2.1 82 = .ok (.new 49, 3) := by decide +kernel
theorem d_Van_init_85 : decode M_Van_init.2.1 85 = .ok (.dup, 1) := by decide +kernel
theorem d_Van_init_86 : decode M_Van_init.2.1 86 = .ok (.invokespecial 51, 3) := by decide +kernel
theorem d_Van_init_89 : decode M_Van_init.2.1 89 = .ok (.putfield 52, 3) := by decide +kernel
theorem d_Van_init_92 : decode M_Van_init.2.1 92 = .ok (.aload_n 0, 1) := by decide +kernel
theorem d_Van_init_93 : decode M_Van_init.2.1 93 = .ok (.bipush 12, 2) := by decide +kernel
theorem d_Van_init_95 : decode M_Van_init.2.1 95 = .ok (.newarray .int, 2) := by decide +kernel
theorem d_Van_init_97 : decode M_Van_init.2.1 97 = .ok (.putfield 56, 3) := by decide +kernel
theorem d_Van_init_100 : decode M_Van_init.2.1 100 = .ok (.aload_n 0, 1) := by decide +kernel
theorem d_Van_init_101 : decode M_Van_init.2.1 101 = .ok (.iconst (-1), 1) := by decide +kernel
theorem d_Van_init_102 : decode M_Van_init.2.1 102 = .ok (.putfield 60, 3) := by decide +kernel
theorem d_Van_init_105 : decode M_Van_init.2.1 105 = .ok (.aload_n 0, 1) := by decide +kernel
theorem d_Van_init_106 : decode M_Van_init.2.1 106 = .ok (.iconst (-1), 1) := by decide +kernel
theorem d_Van_init_107 : decode M_Van_init.2.1 107 = .ok (.putfield 64, 3) := by decide +kernel
theorem d_Van_init_110 : decode M_Van_init.2.1 110 = .ok (.aload_n 0, 1) := by decide +kernel
theorem d_Van_init_111 : decode M_Van_init.2.1 111 = .ok (.bipush 9, 2) := by decide +kernel
theorem d_Van_init_113 : decode M_Van_init.2.1 113 = .ok (.newarray .int, 2) := by decide +kernel
theorem d_Van_init_115 : decode M_Van_init.2.1 115 = .ok (.putfield 67, 3) := by decide +kernel
theorem d_Van_init_118 : decode M_Van_init.2.1 118 = .ok (.return_, 1) := by decide +kernel
theorem d_Van_street_0 : decode M_Van_street.2.1 0 = .ok (.iload_n 1, 1) := by decide +kernel
theorem d_Van_street_1 : decode M_Van_street.2.1 1 = .ok (.invokestatic 70, 3) := by decide +kernel
theorem d_Van_street_4 : decode M_Van_street.2.1 4 = .ok (.ifCond .eq 10, 3) := by decide +kernel
theorem d_Van_street_7 : decode M_Van_street.2.1 7 = .ok (.iload_n 2, 1) := by decide +kernel
theorem d_Van_street_8 : decode M_Van_street.2.1 8 = .ok (.invokestatic 70, 3) := by decide +kernel
theorem d_Van_street_11 : decode M_Van_street.2.1 11 = .ok (.ifCond .ne 10, 3) := by decide +kernel
theorem d_Van_street_14 : decode M_Van_street.2.1 14 = .ok (.aload_n 0, 1) := by decide +kernel
theorem d_Van_street_15 : decode M_Van_street.2.1 15 = .ok (.bipush (-3), 2) := by decide +kernel
theorem d_Van_street_17 : decode M_Van_street.2.1 17 = .ok (.invokevirtual 74, 3) := by decide +kernel
theorem d_Van_street_20 : decode M_Van_street.2.1 20 = .ok (.ireturn, 1) := by decide +kernel
theorem d_Van_street_21 : decode M_Van_street.2.1 21 = .ok (.iload_n 3, 1) := by decide +kernel
theorem d_Van_street_22 : decode M_Van_street.2.1 22 = .ok (.ifCond .lt 14, 3) := by decide +kernel
theorem d_Van_street_25 : decode M_Van_street.2.1 25 = .ok (.iload_n 3, 1) := by decide +kernel
theorem d_Van_street_26 : decode M_Van_street.2.1 26 = .ok (.bipush 99, 2) := by decide +kernel
theorem d_Van_street_28 : decode M_Van_street.2.1 28 = .ok (.if_icmp .gt 8, 3) := by decide +kernel
theorem d_Van_street_31 : decode M_Van_street.2.1 31 = .ok (.iload_n 1, 1) := by decide +kernel
theorem d_Van_street_32 : decode M_Van_street.2.1 32 = .ok (.iload_n 2, 1) := by decide +kernel
theorem d_Van_street_33 : decode M_Van_street.2.1 33 = .ok (.if_icmp .ne 10, 3) := by decide +kernel
theorem d_Van_street_36 : decode M_Van_street.2.1 36 = .ok (.aload_n 0, 1) := by decide +kernel
theorem d_Van_street_37 : decode M_Van_street.2.1 37 = .ok (.bipush (-7), 2) := by decide +kernel
theorem d_Van_street_39 : decode M_Van_street.2.1 39 = .ok (.invokevirtual 74, 3) := by decide +kernel
theorem d_Van_street_42 : decode M_Van_street.2.1 42 = .ok (.ireturn, 1) := by decide +kernel
theorem d_Van_street_43 : decode M_Van_street.2.1 43 = .ok (.aload_n 0, 1) := by decide +kernel
theorem d_Van_street_44 : decode M_Van_street.2.1 44 = .ok (.getfield 32, 3) := by decide +kernel
theorem d_Van_street_47 : decode M_Van_street.2.1 47 = .ok (.iload_n 1, 1) := by decide +kernel
theorem d_Van_street_48 : decode M_Van_street.2.1 48 = .ok (.iload_n 2, 1) := by decide +kernel
theorem d_Van_street_49 : decode M_Van_street.2.1 49 = .ok (.invokevirtual 78, 3) := by decide +kernel
theorem d_Van_street_52 : decode M_Van_street.2.1 52 = .ok (.ifCond .eq 7, 3) := by decide +kernel
theorem d_Van_street_55 : decode M_Van_street.2.1 55 = .ok (.iconst 1, 1) := by decide +kernel
theorem d_Van_street_56 : decode M_Van_street.2.1 56 = .ok (.goto 4, 3) := by decide +kernel
theorem d_Van_street_59 : decode M_Van_street.2.1 59 = .ok (.iconst 0, 1) := by decide +kernel
theorem d_Van_street_60 : decode M_Van_street.2.1 60 = .ok (.istore 4, 2) := by decide +kernel
theorem d_Van_street_62 : decode M_Van_street.2.1 62 = .ok (.aload_n 0, 1) := by decide +kernel
theorem d_Van_street_63 : decode M_Van_street.2.1 63 = .ok (.getfield 32, 3) := by decide +kernel
theorem d_Van_street_66 : decode M_Van_street.2.1 66 = .ok (.iload_n 1, 1) := by decide +kernel
theorem d_Van_street_67 : decode M_Van_street.2.1 67 = .ok (.iload_n 2, 1) := by decide +kernel
theorem d_Van_street_68 : decode M_Van_street.2.1 68 = .ok (.invokevirtual 84, 3) := by decide +kernel
theorem d_Van_street_71 : decode M_Van_street.2.1 71 = .ok (.aload_n 0, 1) := by decide +kernel
theorem d_Van_street_72 : decode M_Van_street.2.1 72 = .ok (.getfield 32, 3) := by decide +kernel
theorem d_Van_street_75 : decode M_Van_street.2.1 75 = .ok (.iload_n 1, 1) := by decide +kernel
theorem d_Van_street_76 : decode M_Van_street.2.1 76 = .ok (.iload_n 2, 1) := by decide +kernel
theorem d_Van_street_77 : decode M_Van_street.2.1 77 = .ok (.iload_n 3, 1) := by decide +kernel
theorem d_Van_street_78 : decode M_Van_street.2.1 78 = .ok (.invokevirtual 88, 3) := by decide +kernel
theorem d_Van_street_81 : decode M_Van_street.2.1 81 = .ok (.aload_n 0, 1) := by decide +kernel
theorem d_Van_street_82 : decode M_Van_street.2.1 82 = .ok (.getfield 25, 3) := by decide +kernel
theorem d_Van_street_85 : decode M_Van_street.2.1 85 = .ok (.aload_n 0, 1) := by decide +kernel
theorem d_Van_street_86 : decode M_Van_street.2.1 86 = .ok (.getfield 46, 3) := by decide +kernel
theorem d_Van_street_89 : decode M_Van_street.2.1 89 = .ok (.invokevirtual 92, 3) := by decide +kernel
theorem d_Van_street_92 : decode M_Van_street.2.1 92 = .ok (.iconst (-1), 1) := by decide +kernel
theorem d_Van_street_93 : decode M_Van_street.2.1 93 = .ok (.if_icmp .ne 19, 3) := by decide +kernel
theorem d_Van_street_96 : decode M_Van_street.2.1 96 = .ok (.aload_n 0, 1) := by decide +kernel
theorem d_Van_street_97 : decode M_Van_street.2.1 97 = .ok (.getfield 32, 3) := by decide +kernel
theorem d_Van_street_100 : decode M_Van_street.2.1 100 = .ok (.iload_n 1, 1) := by decide +kernel
theorem d_Van_street_101 : decode M_Van_street.2.1 101 = .ok (.iload_n 2, 1) := by decide +kernel
theorem d_Van_street_102 : decode M_Van_street.2.1 102 = .ok (.invokevirtual 96, 3) := by decide +kernel
theorem d_Van_street_105 : decode M_Van_street.2.1 105 = .ok (.aload_n 0, 1) := by decide +kernel
theorem d_Van_street_106 : decode M_Van_street.2.1 106 = .ok (.bipush (-7), 2) := by decide +kernel
theorem d_Van_street_108 : decode M_Van_street.2.1 108 = .ok (.invokevirtual 74, 3) := by decide +kernel
theorem d_Van_street_111 : decode M_Van_street.2.1 111 = .ok (.ireturn, 1) := by decide +kernel
theorem d_Van_street_112 : decode M_Van_street.2.1 112 = .ok (.aload_n 0, 1) := by decide +kernel
theorem d_Van_street_113 : decode M_Van_street.2.1 113 = .ok (.getfield 52, 3) := by decide +kernel
theorem d_Van_street_116 : decode M_Van_street.2.1 116 = .ok (.invokevirtual 99, 3) := by decide +kernel
theorem d_Van_street_119 : decode M_Van_street.2.1 119 = .ok (.iload 4, 2) := by decide +kernel
theorem d_Van_street_121 : decode M_Van_street.2.1 121 = .ok (.ireturn, 1) := by decide +kernel
theorem d_Van_isPlace_0 : decode M_Van_isPlace.2.1 0 = .ok (.iload_n 0, 1) := by decide +kernel
theorem d_Van_isPlace_1 : decode M_Van_isPlace.2.1 1 = .ok (.ifCond .lt 13, 3) := by decide +kernel
theorem d_Van_isPlace_4 : decode M_Van_isPlace.2.1 4 = .ok (.iload_n 0, 1) := by decide +kernel
theorem d_Van_isPlace_5 : decode M_Van_isPlace.2.1 5 = .ok (.bipush 8, 2) := by decide +kernel
theorem d_Van_isPlace_7 : decode M_Van_isPlace.2.1 7 = .ok (.if_icmp .ge 7, 3) := by decide +kernel
theorem d_Van_isPlace_10 : decode M_Van_isPlace.2.1 10 = .ok (.iconst 1, 1) := by decide +kernel
theorem d_Van_isPlace_11 : decode M_Van_isPlace.2.1 11 = .ok (.goto 4, 3) := by decide +kernel
theorem d_Van_isPlace_14 : decode M_Van_isPlace.2.1 14 = .ok (.iconst 0, 1) := by decide +kernel
theorem d_Van_isPlace_15 : decode M_Van_isPlace.2.1 15 = .ok (.ireturn, 1) := by decide +kernel
theorem d_Van_refuse_0 : decode M_Van_refuse.2.1 0 = .ok (.aload_n 0, 1) := by decide +kernel
theorem d_Van_refuse_1 : decode M_Van_refuse.2.1 1 = .ok (.getfield 67, 3) := by decide +kernel
theorem d_Van_refuse_4 : decode M_Van_refuse.2.1 4 = .ok (.iload_n 1, 1) := by decide +kernel
theorem d_Van_refuse_5 : decode M_Van_refuse.2.1 5 = .ok (.ineg, 1) := by decide +kernel
theorem d_Van_refuse_6 : decode M_Van_refuse.2.1 6 = .ok (.dup2, 1) := by decide +kernel
theorem d_Van_refuse_7 : decode M_Van_refuse.2.1 7 = .ok (.iaload, 1) := by decide +kernel
theorem d_Van_refuse_8 : decode M_Van_refuse.2.1 8 = .ok (.iconst 1, 1) := by decide +kernel
theorem d_Van_refuse_9 : decode M_Van_refuse.2.1 9 = .ok (.iadd, 1) := by decide +kernel
theorem d_Van_refuse_10 : decode M_Van_refuse.2.1 10 = .ok (.iastore, 1) := by decide +kernel
theorem d_Van_refuse_11 : decode M_Van_refuse.2.1 11 = .ok (.iload_n 1, 1) := by decide +kernel
theorem d_Van_refuse_12 : decode M_Van_refuse.2.1 12 = .ok (.ireturn, 1) := by decide +kernel
theorem d_Van_slow_0 : decode M_Van_slow.2.1 0 = .ok (.iload_n 1, 1) := by decide +kernel
theorem d_Van_slow_1 : decode M_Van_slow.2.1 1 = .ok (.invokestatic 70, 3) := by decide +kernel
theorem d_Van_slow_4 : decode M_Van_slow.2.1 4 = .ok (.ifCond .eq 20, 3) := by decide +kernel
theorem d_Van_slow_7 : decode M_Van_slow.2.1 7 = .ok (.iload_n 2, 1) := by decide +kernel
theorem d_Van_slow_8 : decode M_Van_slow.2.1 8 = .ok (.invokestatic 70, 3) := by decide +kernel
theorem d_Van_slow_11 : decode M_Van_slow.2.1 11 = .ok (.ifCond .eq 13, 3) := by decide +kernel
theorem d_Van_slow_14 : decode M_Van_slow.2.1 14 = .ok (.iload_n 3, 1) := by decide +kernel
theorem d_Van_slow_15 : decode M_Van_slow.2.1 15 = .ok (.ifCond .lt 9, 3) := by decide +kernel
theorem d_Van_slow_18 : decode M_Van_slow.2.1 18 = .ok (.iload_n 3, 1) := by decide +kernel
theorem d_Van_slow_19 : decode M_Van_slow.2.1 19 = .ok (.bipush 8, 2) := by decide +kernel
theorem d_Van_slow_21 : decode M_Van_slow.2.1 21 = .ok (.if_icmp .lt 10, 3) := by decide +kernel
theorem d_Van_slow_24 : decode M_Van_slow.2.1 24 = .ok (.aload_n 0, 1) := by decide +kernel
theorem d_Van_slow_25 : decode M_Van_slow.2.1 25 = .ok (.bipush (-3), 2) := by decide +kernel
theorem d_Van_slow_27 : decode M_Van_slow.2.1 27 = .ok (.invokevirtual 74, 3) := by decide +kernel
theorem d_Van_slow_30 : decode M_Van_slow.2.1 30 = .ok (.ireturn, 1) := by decide +kernel
theorem d_Van_slow_31 : decode M_Van_slow.2.1 31 = .ok (.aload_n 0, 1) := by decide +kernel
theorem d_Van_slow_32 : decode M_Van_slow.2.1 32 = .ok (.getfield 32, 3) := by decide +kernel
theorem d_Van_slow_35 : decode M_Van_slow.2.1 35 = .ok (.iload_n 1, 1) := by decide +kernel
theorem d_Van_slow_36 : decode M_Van_slow.2.1 36 = .ok (.iload_n 2, 1) := by decide +kernel
theorem d_Van_slow_37 : decode M_Van_slow.2.1 37 = .ok (.invokevirtual 78, 3) := by decide +kernel
theorem d_Van_slow_40 : decode M_Van_slow.2.1 40 = .ok (.ifCond .ne 10, 3) := by decide +kernel
theorem d_Van_slow_43 : decode M_Van_slow.2.1 43 = .ok (.aload_n 0, 1) := by decide +kernel
theorem d_Van_slow_44 : decode M_Van_slow.2.1 44 = .ok (.bipush (-2), 2) := by decide +kernel
theorem d_Van_slow_46 : decode M_Van_slow.2.1 46 = .ok (.invokevirtual 74, 3) := by decide +kernel
theorem d_Van_slow_49 : decode M_Van_slow.2.1 49 = .ok (.ireturn, 1) := by decide +kernel
theorem d_Van_slow_50 : decode M_Van_slow.2.1 50 = .ok (.iload 4, 2) := by decide +kernel
theorem d_Van_slow_52 : decode M_Van_slow.2.1 52 = .ok (.iconst 1, 1) := by decide +kernel
theorem d_Van_slow_53 : decode M_Van_slow.2.1 53 = .ok (.if_icmp .lt 10, 3) := by decide +kernel
theorem d_Van_slow_56 : decode M_Van_slow.2.1 56 = .ok (.iload 4, 2) := by decide +kernel
theorem d_Van_slow_58 : decode M_Van_slow.2.1 58 = .ok (.bipush 99, 2) := by decide +kernel
theorem d_Van_slow_60 : decode M_Van_slow.2.1 60 = .ok (.if_icmp .le 10, 3) := by decide +kernel
theorem d_Van_slow_63 : decode M_Van_slow.2.1 63 = .ok (.aload_n 0, 1) := by decide +kernel
theorem d_Van_slow_64 : decode M_Van_slow.2.1 64 = .ok (.bipush (-7), 2) := by decide +kernel
theorem d_Van_slow_66 : decode M_Van_slow.2.1 66 = .ok (.invokevirtual 74, 3) := by decide +kernel
theorem d_Van_slow_69 : decode M_Van_slow.2.1 69 = .ok (.ireturn, 1) := by decide +kernel
theorem d_Van_slow_70 : decode M_Van_slow.2.1 70 = .ok (.aload_n 0, 1) := by decide +kernel
theorem d_Van_slow_71 : decode M_Van_slow.2.1 71 = .ok (.getfield 32, 3) := by decide +kernel
theorem d_Van_slow_74 : decode M_Van_slow.2.1 74 = .ok (.iload_n 1, 1) := by decide +kernel
theorem d_Van_slow_75 : decode M_Van_slow.2.1 75 = .ok (.iload_n 2, 1) := by decide +kernel
theorem d_Van_slow_76 : decode M_Van_slow.2.1 76 = .ok (.iload_n 3, 1) := by decide +kernel
theorem d_Van_slow_77 : decode M_Van_slow.2.1 77 = .ok (.invokevirtual 102, 3) := by decide +kernel
theorem d_Van_slow_80 : decode M_Van_slow.2.1 80 = .ok (.istore 5, 2) := by decide +kernel
theorem d_Van_slow_82 : decode M_Van_slow.2.1 82 = .ok (.aload_n 0, 1) := by decide +kernel
theorem d_Van_slow_83 : decode M_Van_slow.2.1 83 = .ok (.getfield 32, 3) := by decide +kernel
theorem d_Van_slow_86 : decode M_Van_slow.2.1 86 = .ok (.iload_n 1, 1) := by decide +kernel
theorem d_Van_slow_87 : decode M_Van_slow.2.1 87 = .ok (.iload_n 2, 1) := by decide +kernel
theorem d_Van_slow_88 : decode M_Van_slow.2.1 88 = .ok (.iload_n 3, 1) := by decide +kernel
theorem d_Van_slow_89 : decode M_Van_slow.2.1 89 = .ok (.iload 4, 2) := by decide +kernel
theorem d_Van_slow_91 : decode M_Van_slow.2.1 91 = .ok (.invokevirtual 106, 3) := by decide +kernel
theorem d_Van_slow_94 : decode M_Van_slow.2.1 94 = .ok (.aload_n 0, 1) := by decide +kernel
theorem d_Van_slow_95 : decode M_Van_slow.2.1 95 = .ok (.getfield 25, 3) := by decide +kernel
theorem d_Van_slow_98 : decode M_Van_slow.2.1 98 = .ok (.aload_n 0, 1) := by decide +kernel
theorem d_Van_slow_99 : decode M_Van_slow.2.1 99 = .ok (.getfield 46, 3) := by decide +kernel
theorem d_Van_slow_102 : decode M_Van_slow.2.1 102 = .ok (.invokevirtual 92, 3) := by decide +kernel
theorem d_Van_slow_105 : decode M_Van_slow.2.1 105 = .ok (.iconst (-1), 1) := by decide +kernel
theorem d_Van_slow_106 : decode M_Van_slow.2.1 106 = .ok (.if_icmp .ne 22, 3) := by decide +kernel
theorem d_Van_slow_109 : decode M_Van_slow.2.1 109 = .ok (.aload_n 0, 1) := by decide +kernel
theorem d_Van_slow_110 : decode M_Van_slow.2.1 110 = .ok (.getfield 32, 3) := by decide +kernel
theorem d_Van_slow_113 : decode M_Van_slow.2.1 113 = .ok (.iload_n 1, 1) := by decide +kernel
theorem d_Van_slow_114 : decode M_Van_slow.2.1 114 = .ok (.iload_n 2, 1) := by decide +kernel
theorem d_Van_slow_115 : decode M_Van_slow.2.1 115 = .ok (.iload_n 3, 1) := by decide +kernel
theorem d_Van_slow_116 : decode M_Van_slow.2.1 116 = .ok (.iload 5, 2) := by decide +kernel
theorem d_Van_slow_118 : decode M_Van_slow.2.1 118 = .ok (.invokevirtual 106, 3) := by decide +kernel
theorem d_Van_slow_121 : decode M_Van_slow.2.1 121 = .ok (.aload_n 0, 1) := by decide +kernel
theorem d_Van_slow_122 : decode M_Van_slow.2.1 122 = .ok (.bipush (-7), 2) := by decide +kernel
theorem d_Van_slow_124 : decode M_Van_slow.2.1 124 = .ok (.invokevirtual 74, 3) := by decide +kernel
theorem d_Van_slow_127 : decode M_Van_slow.2.1 127 = .ok (.ireturn, 1) := by decide +kernel
theorem d_Van_slow_128 : decode M_Van_slow.2.1 128 = .ok (.aload_n 0, 1) := by decide +kernel
theorem d_Van_slow_129 : decode M_Van_slow.2.1 129 = .ok (.getfield 52, 3) := by decide +kernel
theorem d_Van_slow_132 : decode M_Van_slow.2.1 132 = .ok (.invokevirtual 99, 3) := by decide +kernel
theorem d_Van_slow_135 : decode M_Van_slow.2.1 135 = .ok (.iload 5, 2) := by decide +kernel
theorem d_Van_slow_137 : decode M_Van_slow.2.1 137 = .ok (.ireturn, 1) := by decide +kernel
theorem d_Van_way_0 : decode M_Van_way.2.1 0 = .ok (.iload_n 1, 1) := by decide +kernel
theorem d_Van_way_1 : decode M_Van_way.2.1 1 = .ok (.invokestatic 70, 3) := by decide +kernel
theorem d_Van_way_4 : decode M_Van_way.2.1 4 = .ok (.ifCond .eq 21, 3) := by decide +kernel
theorem d_Van_way_7 : decode M_Van_way.2.1 7 = .ok (.iload_n 2, 1) := by decide +kernel
theorem d_Van_way_8 : decode M_Van_way.2.1 8 = .ok (.invokestatic 70, 3) := by decide +kernel
theorem d_Van_way_11 : decode M_Van_way.2.1 11 = .ok (.ifCond .eq 14, 3) := by decide +kernel
theorem d_Van_way_14 : decode M_Van_way.2.1 14 = .ok (.iload_n 3, 1) := by decide +kernel
theorem d_Van_way_15 : decode M_Van_way.2.1 15 = .ok (.ifCond .lt 10, 3) := by decide +kernel
theorem d_Van_way_18 : decode M_Van_way.2.1 18 = .ok (.iload_n 3, 1) := by decide +kernel
theorem d_Van_way_19 : decode M_Van_way.2.1 19 = .ok (.sipush 480, 3) := by decide +kernel
theorem d_Van_way_22 : decode M_Van_way.2.1 22 = .ok (.if_icmp .lt 10, 3) := by decide +kernel
theorem d_Van_way_25 : decode M_Van_way.2.1 25 = .ok (.aload_n 0, 1) := by decide +kernel
theorem d_Van_way_26 : decode M_Van_way.2.1 26 = .ok (.bipush (-3), 2) := by decide +kernel
theorem d_Van_way_28 : decode M_Van_way.2.1 28 = .ok (.invokevirtual 74, 3) := by decide +kernel
theorem d_Van_way_31 : decode M_Van_way.2.1 31 = .ok (.ireturn, 1) := by decide +kernel
theorem d_Van_way_32 : decode M_Van_way.2.1 32 = .ok (.aload_n 0, 1) := by decide +kernel
theorem d_Van_way_33 : decode M_Van_way.2.1 33 = .ok (.getfield 32, 3) := by decide +kernel
theorem d_Van_way_36 : decode M_Van_way.2.1 36 = .ok (.iload_n 1, 1) := by decide +kernel
theorem d_Van_way_37 : decode M_Van_way.2.1 37 = .ok (.iload_n 2, 1) := by decide +kernel
theorem d_Van_way_38 : decode M_Van_way.2.1 38 = .ok (.iload_n 3, 1) := by decide +kernel
theorem d_Van_way_39 : decode M_Van_way.2.1 39 = .ok (.invokevirtual 110, 3) := by decide +kernel
theorem d_Van_way_42 : decode M_Van_way.2.1 42 = .ok (.istore 4, 2) := by decide +kernel
theorem d_Van_way_44 : decode M_Van_way.2.1 44 = .ok (.iload 4, 2) := by decide +kernel
theorem d_Van_way_46 : decode M_Van_way.2.1 46 = .ok (.ldc 113, 2) := by decide +kernel
theorem d_Van_way_48 : decode M_Van_way.2.1 48 = .ok (.if_icmp .lt 7, 3) := by decide +kernel
theorem d_Van_way_51 : decode M_Van_way.2.1 51 = .ok (.iconst (-1), 1) := by decide +kernel
theorem d_Van_way_52 : decode M_Van_way.2.1 52 = .ok (.goto 5, 3) := by decide +kernel
theorem d_Van_way_55 : decode M_Van_way.2.1 55 = .ok (.iload 4, 2) := by decide +kernel
theorem d_Van_way_57 : decode M_Van_way.2.1 57 = .ok (.ireturn, 1) := by decide +kernel
theorem d_Van_stop_0 : decode M_Van_stop.2.1 0 = .ok (.iload_n 1, 1) := by decide +kernel
theorem d_Van_stop_1 : decode M_Van_stop.2.1 1 = .ok (.ifCond .lt 13, 3) := by decide +kernel
theorem d_Van_stop_4 : decode M_Van_stop.2.1 4 = .ok (.iload_n 1, 1) := by decide +kernel
theorem d_Van_stop_5 : decode M_Van_stop.2.1 5 = .ok (.bipush 10, 2) := by decide +kernel
theorem d_Van_stop_7 : decode M_Van_stop.2.1 7 = .ok (.irem, 1) := by decide +kernel
theorem d_Van_stop_8 : decode M_Van_stop.2.1 8 = .ok (.invokestatic 70, 3) := by decide +kernel
theorem d_Van_stop_11 : decode M_Van_stop.2.1 11 = .ok (.ifCond .ne 10, 3) := by decide +kernel
theorem d_Van_stop_14 : decode M_Van_stop.2.1 14 = .ok (.aload_n 0, 1) := by decide +kernel
theorem d_Van_stop_15 : decode M_Van_stop.2.1 15 = .ok (.bipush (-3), 2) := by decide +kernel
theorem d_Van_stop_17 : decode M_Van_stop.2.1 17 = .ok (.invokevirtual 74, 3) := by decide +kernel
theorem d_Van_stop_20 : decode M_Van_stop.2.1 20 = .ok (.ireturn, 1) := by decide +kernel
theorem d_Van_stop_21 : decode M_Van_stop.2.1 21 = .ok (.iload_n 1, 1) := by decide +kernel
theorem d_Van_stop_22 : decode M_Van_stop.2.1 22 = .ok (.bipush 10, 2) := by decide +kernel
theorem d_Van_stop_24 : decode M_Van_stop.2.1 24 = .ok (.idiv, 1) := by decide +kernel
theorem d_Van_stop_25 : decode M_Van_stop.2.1 25 = .ok (.istore 5, 2) := by decide +kernel
theorem d_Van_stop_27 : decode M_Van_stop.2.1 27 = .ok (.iload 5, 2) := by decide +kernel
theorem d_Van_stop_29 : decode M_Van_stop.2.1 29 = .ok (.iconst 2, 1) := by decide +kernel
theorem d_Van_stop_30 : decode M_Van_stop.2.1 30 = .ok (.if_icmp .ne 77, 3) := by decide +kernel
theorem d_Van_stop_33 : decode M_Van_stop.2.1 33 = .ok (.aload_n 0, 1) := by decide +kernel
theorem d_Van_stop_34 : decode M_Van_stop.2.1 34 = .ok (.getfield 37, 3) := by decide +kernel
theorem d_Van_stop_37 : decode M_Van_stop.2.1 37 = .ok (.iload 4, 2) := by decide +kernel
theorem d_Van_stop_39 : decode M_Van_stop.2.1 39 = .ok (.invokevirtual 114, 3) := by decide +kernel
theorem d_Van_stop_42 : decode M_Van_stop.2.1 42 = .ok (.ifCond .ne 10, 3) := by decide +kernel
theorem d_Van_stop_45 : decode M_Van_stop.2.1 45 = .ok (.aload_n 0, 1) := by decide +kernel
theorem d_Van_stop_46 : decode M_Van_stop.2.1 46 = .ok (.bipush (-3), 2) := by decide +kernel
theorem d_Van_stop_48 : decode M_Van_stop.2.1 48 = .ok (.invokevirtual 74, 3) := by decide +kernel
theorem d_Van_stop_51 : decode M_Van_stop.2.1 51 = .ok (.ireturn, 1) := by decide +kernel
theorem d_Van_stop_52 : decode M_Van_stop.2.1 52 = .ok (.aload_n 0, 1) := by decide +kernel
theorem d_Van_stop_53 : decode M_Van_stop.2.1 53 = .ok (.getfield 37, 3) := by decide +kernel
theorem d_Van_stop_56 : decode M_Van_stop.2.1 56 = .ok (.getfield 119, 3) := by decide +kernel
theorem d_Van_stop_59 : decode M_Van_stop.2.1 59 = .ok (.iload 4, 2) := by decide +kernel
theorem d_Van_stop_61 : decode M_Van_stop.2.1 61 = .ok (.iaload, 1) := by decide +kernel
theorem d_Van_stop_62 : decode M_Van_stop.2.1 62 = .ok (.iconst 1, 1) := by decide +kernel
theorem d_Van_stop_63 : decode M_Van_stop.2.1 63 = .ok (.if_icmp .eq 10, 3) := by decide +kernel
theorem d_Van_stop_66 : decode M_Van_stop.2.1 66 = .ok (.aload_n 0, 1) := by decide +kernel
theorem d_Van_stop_67 : decode M_Van_stop.2.1 67 = .ok (.bipush (-5), 2) := by decide +kernel
theorem d_Van_stop_69 : decode M_Van_stop.2.1 69 = .ok (.invokevirtual 74, 3) := by decide +kernel
theorem d_Van_stop_72 : decode M_Van_stop.2.1 72 = .ok (.ireturn, 1) := by decide +kernel
theorem d_Van_stop_73 : decode M_Van_stop.2.1 73 = .ok (.aload_n 0, 1) := by decide +kernel
theorem d_Van_stop_74 : decode M_Van_stop.2.1 74 = .ok (.getfield 37, 3) := by decide +kernel
theorem d_Van_stop_77 : decode M_Van_stop.2.1 77 = .ok (.getfield 122, 3) := by decide +kernel
theorem d_Van_stop_80 : decode M_Van_stop.2.1 80 = .ok (.iload 4, 2) := by decide +kernel
theorem d_Van_stop_82 : decode M_Van_stop.2.1 82 = .ok (.iaload, 1) := by decide +kernel
theorem d_Van_stop_83 : decode M_Van_stop.2.1 83 = .ok (.iconst (-1), 1) := by decide +kernel
theorem d_Van_stop_84 : decode M_Van_stop.2.1 84 = .ok (.if_icmp .ne 16, 3) := by decide +kernel
theorem d_Van_stop_87 : decode M_Van_stop.2.1 87 = .ok (.aload_n 0, 1) := by decide +kernel
theorem d_Van_stop_88 : decode M_Van_stop.2.1 88 = .ok (.getfield 46, 3) := by decide +kernel
theorem d_Van_stop_91 : decode M_Van_stop.2.1 91 = .ok (.iload 4, 2) := by decide +kernel
theorem d_Van_stop_93 : decode M_Van_stop.2.1 93 = .ok (.invokevirtual 125, 3) := by decide +kernel
theorem d_Van_stop_96 : decode M_Van_stop.2.1 96 = .ok (.iconst (-1), 1) := by decide +kernel
theorem d_Van_stop_97 : decode M_Van_stop.2.1 97 = .ok (.if_icmp .eq 10, 3) := by decide +kernel
theorem d_Van_stop_100 : decode M_Van_stop.2.1 100 = .ok (.aload_n 0, 1) := by decide +kernel
theorem d_Van_stop_101 : decode M_Van_stop.2.1 101 = .ok (.bipush (-7), 2) := by decide +kernel
theorem d_Van_stop_103 : decode M_Van_stop.2.1 103 = .ok (.invokevirtual 74, 3) := by decide +kernel
theorem d_Van_stop_106 : decode M_Van_stop.2.1 106 = .ok (.ireturn, 1) := by decide +kernel
theorem d_Van_stop_107 : decode M_Van_stop.2.1 107 = .ok (.iload 5, 2) := by decide +kernel
theorem d_Van_stop_109 : decode M_Van_stop.2.1 109 = .ok (.iconst 4, 1) := by decide +kernel
theorem d_Van_stop_110 : decode M_Van_stop.2.1 110 = .ok (.if_icmp .gt 19, 3) := by decide +kernel
theorem d_Van_stop_113 : decode M_Van_stop.2.1 113 = .ok (.iload_n 2, 1) := by decide +kernel
theorem d_Van_stop_114 : decode M_Van_stop.2.1 114 = .ok (.invokestatic 128, 3) := by decide +kernel
theorem d_Van_stop_117 : decode M_Van_stop.2.1 117 = .ok (.ifCond .eq 12, 3) := by decide +kernel
theorem d_Van_stop_120 : decode M_Van_stop.2.1 120 = .ok (.iload_n 3, 1) := by decide +kernel
theorem d_Van_stop_121 : decode M_Van_stop.2.1 121 = .ok (.iload 5, 2) := by decide +kernel
theorem d_Van_stop_123 : decode M_Van_stop.2.1 123 = .ok (.invokestatic 131, 3) := by decide +kernel
theorem d_Van_stop_126 : decode M_Van_stop.2.1 126 = .ok (.ifCond .ne 10, 3) := by decide +kernel
theorem d_Van_stop_129 : decode M_Van_stop.2.1 129 = .ok (.aload_n 0, 1) := by decide +kernel
theorem d_Van_stop_130 : decode M_Van_stop.2.1 130 = .ok (.bipush (-7), 2) := by decide +kernel
theorem d_Van_stop_132 : decode M_Van_stop.2.1 132 = .ok (.invokevirtual 74, 3) := by decide +kernel
theorem d_Van_stop_135 : decode M_Van_stop.2.1 135 = .ok (.ireturn, 1) := by decide +kernel
theorem d_Van_stop_136 : decode M_Van_stop.2.1 136 = .ok (.aload_n 0, 1) := by decide +kernel
theorem d_Van_stop_137 : decode M_Van_stop.2.1 137 = .ok (.getfield 37, 3) := by decide +kernel
theorem d_Van_stop_140 : decode M_Van_stop.2.1 140 = .ok (.getfield 134, 3) := by decide +kernel
theorem d_Van_stop_143 : decode M_Van_stop.2.1 143 = .ok (.bipush 12, 2) := by decide +kernel
theorem d_Van_stop_145 : decode M_Van_stop.2.1 145 = .ok (.if_icmp .lt 10, 3) := by decide +kernel
theorem d_Van_stop_148 : decode M_Van_stop.2.1 148 = .ok (.aload_n 0, 1) := by decide +kernel
theorem d_Van_stop_149 : decode M_Van_stop.2.1 149 = .ok (.bipush (-8), 2) := by decide +kernel
theorem d_Van_stop_151 : decode M_Van_stop.2.1 151 = .ok (.invokevirtual 74, 3) := by decide +kernel
theorem d_Van_stop_154 : decode M_Van_stop.2.1 154 = .ok (.ireturn, 1) := by decide +kernel
theorem d_Van_stop_155 : decode M_Van_stop.2.1 155 = .ok (.aload_n 0, 1) := by decide +kernel
theorem d_Van_stop_156 : decode M_Van_stop.2.1 156 = .ok (.getfield 37, 3) := by decide +kernel
theorem d_Van_stop_159 : decode M_Van_stop.2.1 159 = .ok (.iload 5, 2) := by decide +kernel
theorem d_Van_stop_161 : decode M_Van_stop.2.1 161 = .ok (.iload_n 1, 1) := by decide +kernel
theorem d_Van_stop_162 : decode M_Van_stop.2.1 162 = .ok (.bipush 10, 2) := by decide +kernel
theorem d_Van_stop_164 : decode M_Van_stop.2.1 164 = .ok (.irem, 1) := by decide +kernel
theorem d_Van_stop_165 : decode M_Van_stop.2.1 165 = .ok (.iload_n 3, 1) := by decide +kernel
theorem d_Van_stop_166 : decode M_Van_stop.2.1 166 = .ok (.invokevirtual 136, 3) := by decide +kernel
theorem d_Van_stop_169 : decode M_Van_stop.2.1 169 = .ok (.istore 6, 2) := by decide +kernel
theorem d_Van_stop_171 : decode M_Van_stop.2.1 171 = .ok (.aload_n 0, 1) := by decide +kernel
theorem d_Van_stop_172 : decode M_Van_stop.2.1 172 = .ok (.getfield 37, 3) := by decide +kernel
theorem d_Van_stop_175 : decode M_Van_stop.2.1 175 = .ok (.iload 6, 2) := by decide +kernel
theorem d_Van_stop_177 : decode M_Van_stop.2.1 177 = .ok (.iload_n 2, 1) := by decide +kernel
theorem d_Van_stop_178 : decode M_Van_stop.2.1 178 = .ok (.invokevirtual 139, 3) := by decide +kernel
theorem d_Van_stop_181 : decode M_Van_stop.2.1 181 = .ok (.iload 5, 2) := by decide +kernel
theorem d_Van_stop_183 : decode M_Van_stop.2.1 183 = .ok (.iconst 2, 1) := by decide +kernel
theorem d_Van_stop_184 : decode M_Van_stop.2.1 184 = .ok (.if_icmp .ne 14, 3) := by decide +kernel
theorem d_Van_stop_187 : decode M_Van_stop.2.1 187 = .ok (.aload_n 0, 1) := by decide +kernel
theorem d_Van_stop_188 : decode M_Van_stop.2.1 188 = .ok (.getfield 37, 3) := by decide +kernel
theorem d_Van_stop_191 : decode M_Van_stop.2.1 191 = .ok (.iload 4, 2) := by decide +kernel
theorem d_Van_stop_193 : decode M_Van_stop.2.1 193 = .ok (.iload 6, 2) := by decide +kernel
theorem d_Van_stop_195 : decode M_Van_stop.2.1 195 = .ok (.invokevirtual 142, 3) := by decide +kernel
theorem d_Van_stop_198 : decode M_Van_stop.2.1 198 = .ok (.aload_n 0, 1) := by decide +kernel
theorem d_Van_stop_199 : decode M_Van_stop.2.1 199 = .ok (.getfield 52, 3) := by decide +kernel
theorem d_Van_stop_202 : decode M_Van_stop.2.1 202 = .ok (.invokevirtual 99, 3) := by decide +kernel
theorem d_Van_stop_205 : decode M_Van_stop.2.1 205 = .ok (.iload 6, 2) := by decide +kernel
theorem d_Van_stop_207 : decode M_Van_stop.2.1 207 = .ok (.ireturn, 1) := by decide +kernel
theorem d_Van_isSpan_0 : decode M_Van_isSpan.2.1 0 = .ok (.iload_n 0, 1) := by decide +kernel
theorem d_Van_isSpan_1 : decode M_Van_isSpan.2.1 1 = .ok (.ifCond .ge 5, 3) := by decide +kernel
theorem d_Van_isSpan_4 : decode M_Van_isSpan.2.1 4 = .ok (.iconst 0, 1) := by decide +kernel
theorem d_Van_isSpan_5 : decode M_Van_isSpan.2.1 5 = .ok (.ireturn, 1) := by decide +kernel
theorem d_Van_isSpan_6 : decode M_Van_isSpan.2.1 6 = .ok (.iload_n 0, 1) := by decide +kernel
theorem d_Van_isSpan_7 : decode M_Van_isSpan.2.1 7 = .ok (.sipush 1000, 3) := by decide +kernel
theorem d_Van_isSpan_10 : decode M_Van_isSpan.2.1 10 = .ok (.idiv, 1) := by decide +kernel
theorem d_Van_isSpan_11 : decode M_Van_isSpan.2.1 11 = .ok (.istore_n 1, 1) := by decide +kernel
theorem d_Van_isSpan_12 : decode M_Van_isSpan.2.1 12 = .ok (.iload_n 0, 1) := by decide +kernel
theorem d_Van_isSpan_13 : decode M_Van_isSpan.2.1 13 = .ok (.sipush 1000, 3) := by decide +kernel
theorem d_Van_isSpan_16 : decode M_Van_isSpan.2.1 16 = .ok (.irem, 1) := by decide +kernel
theorem d_Van_isSpan_17 : decode M_Van_isSpan.2.1 17 = .ok (.istore_n 2, 1) := by decide +kernel
theorem d_Van_isSpan_18 : decode M_Van_isSpan.2.1 18 = .ok (.iload_n 2, 1) := by decide +kernel
theorem d_Van_isSpan_19 : decode M_Van_isSpan.2.1 19 = .ok (.sipush 480, 3) := by decide +kernel
theorem d_Van_isSpan_22 : decode M_Van_isSpan.2.1 22 = .ok (.if_icmp .ge 12, 3) := by decide +kernel
theorem d_Van_isSpan_25 : decode M_Van_isSpan.2.1 25 = .ok (.iload_n 1, 1) := by decide +kernel
theorem d_Van_isSpan_26 : decode M_Van_isSpan.2.1 26 = .ok (.iload_n 2, 1) := by decide +kernel
theorem d_Van_isSpan_27 : decode M_Van_isSpan.2.1 27 = .ok (.if_icmp .gt 7, 3) := by decide +kernel
theorem d_Van_isSpan_30 : decode M_Van_isSpan.2.1 30 = .ok (.iconst 1, 1) := by decide +kernel
theorem d_Van_isSpan_31 : decode M_Van_isSpan.2.1 31 = .ok (.goto 4, 3) := by decide +kernel
theorem d_Van_isSpan_34 : decode M_Van_isSpan.2.1 34 = .ok (.iconst 0, 1) := by decide +kernel
theorem d_Van_isSpan_35 : decode M_Van_isSpan.2.1 35 = .ok (.ireturn, 1) := by decide +kernel
theorem d_Van_isService_0 : decode M_Van_isService.2.1 0 = .ok (.iload_n 0, 1) := by decide +kernel
theorem d_Van_isService_1 : decode M_Van_isService.2.1 1 = .ok (.ifCond .lt 12, 3) := by decide +kernel
theorem d_Van_isService_4 : decode M_Van_isService.2.1 4 = .ok (.iload_n 0, 1) := by decide +kernel
theorem d_Van_isService_5 : decode M_Van_isService.2.1 5 = .ok (.bipush 100, 2) := by decide +kernel
theorem d_Van_isService_7 : decode M_Van_isService.2.1 7 = .ok (.idiv, 1) := by decide +kernel
theorem d_Van_isService_8 : decode M_Van_isService.2.1 8 = .ok (.bipush 60, 2) := by decide +kernel
theorem d_Van_isService_10 : decode M_Van_isService.2.1 10 = .ok (.if_icmp .le 5, 3) := by decide +kernel
theorem d_Van_isService_13 : decode M_Van_isService.2.1 13 = .ok (.iconst 0, 1) := by decide +kernel
theorem d_Van_isService_14 : decode M_Van_isService.2.1 14 = .ok (.ireturn, 1) := by decide +kernel
theorem d_Van_isService_15 : decode M_Van_isService.2.1 15 = .ok (.iload_n 1, 1) := by decide +kernel
theorem d_Van_isService_16 : decode M_Van_isService.2.1 16 = .ok (.iconst 2, 1) := by decide +kernel
theorem d_Van_isService_17 : decode M_Van_isService.2.1 17 = .ok (.if_icmp .eq 12, 3) := by decide +kernel
theorem d_Van_isService_20 : decode M_Van_isService.2.1 20 = .ok (.iload_n 0, 1) := by decide +kernel
theorem d_Van_isService_21 : decode M_Van_isService.2.1 21 = .ok (.bipush 100, 2) := by decide +kernel
theorem d_Van_isService_23 : decode M_Van_isService.2.1 23 = .ok (.irem, 1) := by decide +kernel
theorem d_Van_isService_24 : decode M_Van_isService.2.1 24 = .ok (.bipush 50, 2) := by decide +kernel
theorem d_Van_isService_26 : decode M_Van_isService.2.1 26 = .ok (.if_icmp .gt 7, 3) := by decide +kernel
theorem d_Van_isService_29 : decode M_Van_isService.2.1 29 = .ok (.iconst 1, 1) := by decide +kernel
theorem d_Van_isService_30 : decode M_Van_isService.2.1 30 = .ok (.goto 4, 3) := by decide +kernel
theorem d_Van_isService_33 : decode M_Van_isService.2.1 33 = .ok (.iconst 0, 1) := by decide +kernel
theorem d_Van_isService_34 : decode M_Van_isService.2.1 34 = .ok (.ireturn, 1) := by decide +kernel
theorem d_Van_span_0 : decode M_Van_span.2.1 0 = .ok (.aload_n 0, 1) := by decide +kernel
theorem d_Van_span_1 : decode M_Van_span.2.1 1 = .ok (.getfield 37, 3) := by decide +kernel
theorem d_Van_span_4 : decode M_Van_span.2.1 4 = .ok (.iload_n 1, 1) := by decide +kernel
theorem d_Van_span_5 : decode M_Van_span.2.1 5 = .ok (.invokevirtual 114, 3) := by decide +kernel
theorem d_Van_span_8 : decode M_Van_span.2.1 8 = .ok (.ifCond .ne 10, 3) := by decide +kernel
theorem d_Van_span_11 : decode M_Van_span.2.1 11 = .ok (.aload_n 0, 1) := by decide +kernel
theorem d_Van_span_12 : decode M_Van_span.2.1 12 = .ok (.bipush (-3), 2) := by decide +kernel
theorem d_Van_span_14 : decode M_Van_span.2.1 14 = .ok (.invokevirtual 74, 3) := by decide +kernel
theorem d_Van_span_17 : decode M_Van_span.2.1 17 = .ok (.ireturn, 1) := by decide +kernel
theorem d_Van_span_18 : decode M_Van_span.2.1 18 = .ok (.iload_n 2, 1) := by decide +kernel
theorem d_Van_span_19 : decode M_Van_span.2.1 19 = .ok (.invokestatic 128, 3) := by decide +kernel
theorem d_Van_span_22 : decode M_Van_span.2.1 22 = .ok (.ifCond .ne 10, 3) := by decide +kernel
theorem d_Van_span_25 : decode M_Van_span.2.1 25 = .ok (.aload_n 0, 1) := by decide +kernel
theorem d_Van_span_26 : decode M_Van_span.2.1 26 = .ok (.bipush (-7), 2) := by decide +kernel
theorem d_Van_span_28 : decode M_Van_span.2.1 28 = .ok (.invokevirtual 74, 3) := by decide +kernel
theorem d_Van_span_31 : decode M_Van_span.2.1 31 = .ok (.ireturn, 1) := by decide +kernel
theorem d_Van_span_32 : decode M_Van_span.2.1 32 = .ok (.sipush 1000, 3) := by decide +kernel
theorem d_Van_span_35 : decode M_Van_span.2.1 35 = .ok (.aload_n 0, 1) := by decide +kernel
theorem d_Van_span_36 : decode M_Van_span.2.1 36 = .ok (.getfield 37, 3) := by decide +kernel
theorem d_Van_span_39 : decode M_Van_span.2.1 39 = .ok (.getfield 145, 3) := by decide +kernel
theorem d_Van_span_42 : decode M_Van_span.2.1 42 = .ok (.iload_n 1, 1) := by decide +kernel
theorem d_Van_span_43 : decode M_Van_span.2.1 43 = .ok (.iaload, 1) := by decide +kernel
theorem d_Van_span_44 : decode M_Van_span.2.1 44 = .ok (.imul, 1) := by decide +kernel
theorem d_Van_span_45 : decode M_Van_span.2.1 45 = .ok (.aload_n 0, 1) := by decide +kernel
theorem d_Van_span_46 : decode M_Van_span.2.1 46 = .ok (.getfield 37, 3) := by decide +kernel
theorem d_Van_span_49 : decode M_Van_span.2.1 49 = .ok (.getfield 148, 3) := by decide +kernel
theorem d_Van_span_52 : decode M_Van_span.2.1 52 = .ok (.iload_n 1, 1) := by decide +kernel
theorem d_Van_span_53 : decode M_Van_span.2.1 53 = .ok (.iaload, 1) := by decide +kernel
theorem d_Van_span_54 : decode M_Van_span.2.1 54 = .ok (.iadd, 1) := by decide +kernel
theorem d_Van_span_55 : decode M_Van_span.2.1 55 = .ok (.istore_n 3, 1) := by decide +kernel
theorem d_Van_span_56 : decode M_Van_span.2.1 56 = .ok (.aload_n 0, 1) := by decide +kernel
theorem d_Van_span_57 : decode M_Van_span.2.1 57 = .ok (.getfield 37, 3) := by decide +kernel
theorem d_Van_span_60 : decode M_Van_span.2.1 60 = .ok (.iload_n 1, 1) := by decide +kernel
theorem d_Van_span_61 : decode M_Van_span.2.1 61 = .ok (.iload_n 2, 1) := by decide +kernel
theorem d_Van_span_62 : decode M_Van_span.2.1 62 = .ok (.invokevirtual 139, 3) := by decide +kernel
theorem d_Van_span_65 : decode M_Van_span.2.1 65 = .ok (.aload_n 0, 1) := by decide +kernel
theorem d_Van_span_66 : decode M_Van_span.2.1 66 = .ok (.getfield 25, 3) := by decide +kernel
theorem d_Van_span_69 : decode M_Van_span.2.1 69 = .ok (.aload_n 0, 1) := by decide +kernel
theorem d_Van_span_70 : decode M_Van_span.2.1 70 = .ok (.getfield 46, 3) := by decide +kernel
theorem d_Van_span_73 : decode M_Van_span.2.1 73 = .ok (.invokevirtual 92, 3) := by decide +kernel
theorem d_Van_span_76 : decode M_Van_span.2.1 76 = .ok (.iconst (-1), 1) := by decide +kernel
theorem d_Van_span_77 : decode M_Van_span.2.1 77 = .ok (.if_icmp .ne 19, 3) := by decide +kernel
theorem d_Van_span_80 : decode M_Van_span.2.1 80 = .ok (.aload_n 0, 1) := by decide +kernel
theorem d_Van_span_81 : decode M_Van_span.2.1 81 = .ok (.getfield 37, 3) := by decide +kernel
theorem d_Van_span_84 : decode M_Van_span.2.1 84 = .ok (.iload_n 1, 1) := by decide +kernel
theorem d_Van_span_85 : decode M_Van_span.2.1 85 = .ok (.iload_n 3, 1) := by decide +kernel
theorem d_Van_span_86 : decode M_Van_span.2.1 86 = .ok (.invokevirtual 139, 3) := by decide +kernel
theorem d_Van_span_89 : decode M_Van_span.2.1 89 = .ok (.aload_n 0, 1) := by decide +kernel
theorem d_Van_span_90 : decode M_Van_span.2.1 90 = .ok (.bipush (-7), 2) := by decide +kernel
theorem d_Van_span_92 : decode M_Van_span.2.1 92 = .ok (.invokevirtual 74, 3) := by decide +kernel
theorem d_Van_span_95 : decode M_Van_span.2.1 95 = .ok (.ireturn, 1) := by decide +kernel
theorem d_Van_span_96 : decode M_Van_span.2.1 96 = .ok (.aload_n 0, 1) := by decide +kernel
theorem d_Van_span_97 : decode M_Van_span.2.1 97 = .ok (.getfield 52, 3) := by decide +kernel
theorem d_Van_span_100 : decode M_Van_span.2.1 100 = .ok (.invokevirtual 99, 3) := by decide +kernel
theorem d_Van_span_103 : decode M_Van_span.2.1 103 = .ok (.iload_n 3, 1) := by decide +kernel
theorem d_Van_span_104 : decode M_Van_span.2.1 104 = .ok (.ireturn, 1) := by decide +kernel
theorem d_Van_price_0 : decode M_Van_price.2.1 0 = .ok (.aload_n 0, 1) := by decide +kernel
theorem d_Van_price_1 : decode M_Van_price.2.1 1 = .ok (.getfield 37, 3) := by decide +kernel
theorem d_Van_price_4 : decode M_Van_price.2.1 4 = .ok (.iload_n 1, 1) := by decide +kernel
theorem d_Van_price_5 : decode M_Van_price.2.1 5 = .ok (.invokevirtual 114, 3) := by decide +kernel
theorem d_Van_price_8 : decode M_Van_price.2.1 8 = .ok (.ifCond .ne 10, 3) := by decide +kernel
theorem d_Van_price_11 : decode M_Van_price.2.1 11 = .ok (.aload_n 0, 1) := by decide +kernel
theorem d_Van_price_12 : decode M_Van_price.2.1 12 = .ok (.bipush (-3), 2) := by decide +kernel
theorem d_Van_price_14 : decode M_Van_price.2.1 14 = .ok (.invokevirtual 74, 3) := by decide +kernel
theorem d_Van_price_17 : decode M_Van_price.2.1 17 = .ok (.ireturn, 1) := by decide +kernel
theorem d_Van_price_18 : decode M_Van_price.2.1 18 = .ok (.aload_n 0, 1) := by decide +kernel
theorem d_Van_price_19 : decode M_Van_price.2.1 19 = .ok (.getfield 37, 3) := by decide +kernel
theorem d_Van_price_22 : decode M_Van_price.2.1 22 = .ok (.getfield 119, 3) := by decide +kernel
theorem d_Van_price_25 : decode M_Van_price.2.1 25 = .ok (.iload_n 1, 1) := by decide +kernel
theorem d_Van_price_26 : decode M_Van_price.2.1 26 = .ok (.iaload, 1) := by decide +kernel
theorem d_Van_price_27 : decode M_Van_price.2.1 27 = .ok (.iconst 3, 1) := by decide +kernel
theorem d_Van_price_28 : decode M_Van_price.2.1 28 = .ok (.if_icmp .eq 10, 3) := by decide +kernel
theorem d_Van_price_31 : decode M_Van_price.2.1 31 = .ok (.aload_n 0, 1) := by decide +kernel
theorem d_Van_price_32 : decode M_Van_price.2.1 32 = .ok (.bipush (-5), 2) := by decide +kernel
theorem d_Van_price_34 : decode M_Van_price.2.1 34 = .ok (.invokevirtual 74, 3) := by decide +kernel
theorem d_Van_price_37 : decode M_Van_price.2.1 37 = .ok (.ireturn, 1) := by decide +kernel
theorem d_Van_price_38 : decode M_Van_price.2.1 38 = .ok (.iload_n 2, 1) := by decide +kernel
theorem d_Van_price_39 : decode M_Van_price.2.1 39 = .ok (.iconst 1, 1) := by decide +kernel
theorem d_Van_price_40 : decode M_Van_price.2.1 40 = .ok (.if_icmp .lt 9, 3) := by decide +kernel
theorem d_Van_price_43 : decode M_Van_price.2.1 43 = .ok (.iload_n 2, 1) := by decide +kernel
theorem d_Van_price_44 : decode M_Van_price.2.1 44 = .ok (.bipush 9, 2) := by decide +kernel
theorem d_Van_price_46 : decode M_Van_price.2.1 46 = .ok (.if_icmp .le 10, 3) := by decide +kernel
theorem d_Van_price_49 : decode M_Van_price.2.1 49 = .ok (.aload_n 0, 1) := by decide +kernel
theorem d_Van_price_50 : decode M_Van_price.2.1 50 = .ok (.bipush (-7), 2) := by decide +kernel
theorem d_Van_price_52 : decode M_Van_price.2.1 52 = .ok (.invokevirtual 74, 3) := by decide +kernel
theorem d_Van_price_55 : decode M_Van_price.2.1 55 = .ok (.ireturn, 1) := by decide +kernel
theorem d_Van_price_56 : decode M_Van_price.2.1 56 = .ok (.aload_n 0, 1) := by decide +kernel
theorem d_Van_price_57 : decode M_Van_price.2.1 57 = .ok (.getfield 37, 3) := by decide +kernel
theorem d_Van_price_60 : decode M_Van_price.2.1 60 = .ok (.getfield 151, 3) := by decide +kernel
theorem d_Van_price_63 : decode M_Van_price.2.1 63 = .ok (.iload_n 1, 1) := by decide +kernel
theorem d_Van_price_64 : decode M_Van_price.2.1 64 = .ok (.iaload, 1) := by decide +kernel
theorem d_Van_price_65 : decode M_Van_price.2.1 65 = .ok (.istore_n 3, 1) := by decide +kernel
theorem d_Van_price_66 : decode M_Van_price.2.1 66 = .ok (.aload_n 0, 1) := by decide +kernel
theorem d_Van_price_67 : decode M_Van_price.2.1 67 = .ok (.getfield 37, 3) := by decide +kernel
theorem d_Van_price_70 : decode M_Van_price.2.1 70 = .ok (.getfield 151, 3) := by decide +kernel
theorem d_Van_price_73 : decode M_Van_price.2.1 73 = .ok (.iload_n 1, 1) := by decide +kernel
theorem d_Van_price_74 : decode M_Van_price.2.1 74 = .ok (.iload_n 2, 1) := by decide +kernel
theorem d_Van_price_75 : decode M_Van_price.2.1 75 = .ok (.iastore, 1) := by decide +kernel
theorem d_Van_price_76 : decode M_Van_price.2.1 76 = .ok (.aload_n 0, 1) := by decide +kernel
theorem d_Van_price_77 : decode M_Van_price.2.1 77 = .ok (.getfield 52, 3) := by decide +kernel
theorem d_Van_price_80 : decode M_Van_price.2.1 80 = .ok (.invokevirtual 99, 3) := by decide +kernel
theorem d_Van_price_83 : decode M_Van_price.2.1 83 = .ok (.iload_n 3, 1) := by decide +kernel
theorem d_Van_price_84 : decode M_Van_price.2.1 84 = .ok (.ireturn, 1) := by decide +kernel
theorem d_Van_van_0 : decode M_Van_van.2.1 0 = .ok (.iload_n 1, 1) := by decide +kernel
theorem d_Van_van_1 : decode M_Van_van.2.1 1 = .ok (.iconst 1, 1) := by decide +kernel
theorem d_Van_van_2 : decode M_Van_van.2.1 2 = .ok (.if_icmp .lt 17, 3) := by decide +kernel
theorem d_Van_van_5 : decode M_Van_van.2.1 5 = .ok (.iload_n 1, 1) := by decide +kernel
theorem d_Van_van_6 : decode M_Van_van.2.1 6 = .ok (.sipush 200, 3) := by decide +kernel
theorem d_Van_van_9 : decode M_Van_van.2.1 9 = .ok (.if_icmp .gt 10, 3) := by decide +kernel
theorem d_Van_van_12 : decode M_Van_van.2.1 12 = .ok (.iload_n 2, 1) := by decide +kernel
theorem d_Van_van_13 : decode M_Van_van.2.1 13 = .ok (.invokestatic 128, 3) := by decide +kernel
theorem d_Van_van_16 : decode M_Van_van.2.1 16 = .ok (.ifCond .ne 10, 3) := by decide +kernel
theorem d_Van_van_19 : decode M_Van_van.2.1 19 = .ok (.aload_n 0, 1) := by decide +kernel
theorem d_Van_van_20 : decode M_Van_van.2.1 20 = .ok (.bipush (-7), 2) := by decide +kernel
theorem d_Van_van_22 : decode M_Van_van.2.1 22 = .ok (.invokevirtual 74, 3) := by decide +kernel
theorem d_Van_van_25 : decode M_Van_van.2.1 25 = .ok (.ireturn, 1) := by decide +kernel
theorem d_Van_van_26 : decode M_Van_van.2.1 26 = .ok (.iload_n 3, 1) := by decide +kernel
theorem d_Van_van_27 : decode M_Van_van.2.1 27 = .ok (.ifCond .lt 10, 3) := by decide +kernel
theorem d_Van_van_30 : decode M_Van_van.2.1 30 = .ok (.iload_n 3, 1) := by decide +kernel
theorem d_Van_van_31 : decode M_Van_van.2.1 31 = .ok (.sipush 500, 3) := by decide +kernel
theorem d_Van_van_34 : decode M_Van_van.2.1 34 = .ok (.if_icmp .le 10, 3) := by decide +kernel
theorem d_Van_van_37 : decode M_Van_van.2.1 37 = .ok (.aload_n 0, 1) := by decide +kernel
theorem d_Van_van_38 : decode M_Van_van.2.1 38 = .ok (.bipush (-7), 2) := by decide +kernel
theorem d_Van_van_40 : decode M_Van_van.2.1 40 = .ok (.invokevirtual 74, 3) := by decide +kernel
theorem d_Van_van_43 : decode M_Van_van.2.1 43 = .ok (.ireturn, 1) := by decide +kernel
theorem d_Van_van_44 : decode M_Van_van.2.1 44 = .ok (.aload_n 0, 1) := by decide +kernel
theorem d_Van_van_45 : decode M_Van_van.2.1 45 = .ok (.getfield 42, 3) := by decide +kernel
theorem d_Van_van_48 : decode M_Van_van.2.1 48 = .ok (.getfield 154, 3) := by decide +kernel
theorem d_Van_van_51 : decode M_Van_van.2.1 51 = .ok (.iconst 3, 1) := by decide +kernel
theorem d_Van_van_52 : decode M_Van_van.2.1 52 = .ok (.if_icmp .lt 10, 3) := by decide +kernel
theorem d_Van_van_55 : decode M_Van_van.2.1 55 = .ok (.aload_n 0, 1) := by decide +kernel
theorem d_Van_van_56 : decode M_Van_van.2.1 56 = .ok (.bipush (-8), 2) := by decide +kernel
theorem d_Van_van_58 : decode M_Van_van.2.1 58 = .ok (.invokevirtual 74, 3) := by decide +kernel
theorem d_Van_van_61 : decode M_Van_van.2.1 61 = .ok (.ireturn, 1) := by decide +kernel
theorem d_Van_van_62 : decode M_Van_van.2.1 62 = .ok (.aload_n 0, 1) := by decide +kernel
theorem d_Van_van_63 : decode M_Van_van.2.1 63 = .ok (.getfield 42, 3) := by decide +kernel
theorem d_Van_van_66 : decode M_Van_van.2.1 66 = .ok (.iload_n 1, 1) := by decide +kernel
theorem d_Van_van_67 : decode M_Van_van.2.1 67 = .ok (.iload_n 3, 1) := by decide +kernel
theorem d_Van_van_68 : decode M_Van_van.2.1 68 = .ok (.invokevirtual 157, 3) := by decide +kernel
theorem d_Van_van_71 : decode M_Van_van.2.1 71 = .ok (.istore 4, 2) := by decide +kernel
theorem d_Van_van_73 : decode M_Van_van.2.1 73 = .ok (.aload_n 0, 1) := by decide +kernel
theorem d_Van_van_74 : decode M_Van_van.2.1 74 = .ok (.getfield 42, 3) := by decide +kernel
theorem d_Van_van_77 : decode M_Van_van.2.1 77 = .ok (.iload 4, 2) := by decide +kernel
theorem d_Van_van_79 : decode M_Van_van.2.1 79 = .ok (.iload_n 2, 1) := by decide +kernel
theorem d_Van_van_80 : decode M_Van_van.2.1 80 = .ok (.invokevirtual 160, 3) := by decide +kernel
theorem d_Van_van_83 : decode M_Van_van.2.1 83 = .ok (.aload_n 0, 1) := by decide +kernel
theorem d_Van_van_84 : decode M_Van_van.2.1 84 = .ok (.getfield 52, 3) := by decide +kernel
theorem d_Van_van_87 : decode M_Van_van.2.1 87 = .ok (.invokevirtual 99, 3) := by decide +kernel
theorem d_Van_van_90 : decode M_Van_van.2.1 90 = .ok (.iload 4, 2) := by decide +kernel
theorem d_Van_van_92 : decode M_Van_van.2.1 92 = .ok (.ireturn, 1) := by decide +kernel
theorem d_Van_shift_0 : decode M_Van_shift.2.1 0 = .ok (.aload_n 0, 1) := by decide +kernel
theorem d_Van_shift_1 : decode M_Van_shift.2.1 1 = .ok (.getfield 42, 3) := by decide +kernel
theorem d_Van_shift_4 : decode M_Van_shift.2.1 4 = .ok (.iload_n 1, 1) := by decide +kernel
theorem d_Van_shift_5 : decode M_Van_shift.2.1 5 = .ok (.invokevirtual 163, 3) := by decide +kernel
theorem d_Van_shift_8 : decode M_Van_shift.2.1 8 = .ok (.ifCond .ne 10, 3) := by decide +kernel
theorem d_Van_shift_11 : decode M_Van_shift.2.1 11 = .ok (.aload_n 0, 1) := by decide +kernel
theorem d_Van_shift_12 : decode M_Van_shift.2.1 12 = .ok (.bipush (-3), 2) := by decide +kernel
theorem d_Van_shift_14 : decode M_Van_shift.2.1 14 = .ok (.invokevirtual 74, 3) := by decide +kernel
theorem d_Van_shift_17 : decode M_Van_shift.2.1 17 = .ok (.ireturn, 1) := by decide +kernel
theorem d_Van_shift_18 : decode M_Van_shift.2.1 18 = .ok (.iload_n 2, 1) := by decide +kernel
theorem d_Van_shift_19 : decode M_Van_shift.2.1 19 = .ok (.invokestatic 128, 3) := by decide +kernel
theorem d_Van_shift_22 : decode M_Van_shift.2.1 22 = .ok (.ifCond .ne 10, 3) := by decide +kernel
theorem d_Van_shift_25 : decode M_Van_shift.2.1 25 = .ok (.aload_n 0, 1) := by decide +kernel
theorem d_Van_shift_26 : decode M_Van_shift.2.1 26 = .ok (.bipush (-7), 2) := by decide +kernel
theorem d_Van_shift_28 : decode M_Van_shift.2.1 28 = .ok (.invokevirtual 74, 3) := by decide +kernel
theorem d_Van_shift_31 : decode M_Van_shift.2.1 31 = .ok (.ireturn, 1) := by decide +kernel
theorem d_Van_shift_32 : decode M_Van_shift.2.1 32 = .ok (.sipush 1000, 3) := by decide +kernel
theorem d_Van_shift_35 : decode M_Van_shift.2.1 35 = .ok (.aload_n 0, 1) := by decide +kernel
theorem d_Van_shift_36 : decode M_Van_shift.2.1 36 = .ok (.getfield 42, 3) := by decide +kernel
theorem d_Van_shift_39 : decode M_Van_shift.2.1 39 = .ok (.getfield 164, 3) := by decide +kernel
theorem d_Van_shift_42 : decode M_Van_shift.2.1 42 = .ok (.iload_n 1, 1) := by decide +kernel
theorem d_Van_shift_43 : decode M_Van_shift.2.1 43 = .ok (.iaload, 1) := by decide +kernel
theorem d_Van_shift_44 : decode M_Van_shift.2.1 44 = .ok (.imul, 1) := by decide +kernel
theorem d_Van_shift_45 : decode M_Van_shift.2.1 45 = .ok (.aload_n 0, 1) := by decide +kernel
theorem d_Van_shift_46 : decode M_Van_shift.2.1 46 = .ok (.getfield 42, 3) := by decide +kernel
theorem d_Van_shift_49 : decode M_Van_shift.2.1 49 = .ok (.getfield 165, 3) := by decide +kernel
theorem d_Van_shift_52 : decode M_Van_shift.2.1 52 = .ok (.iload_n 1, 1) := by decide +kernel
theorem d_Van_shift_53 : decode M_Van_shift.2.1 53 = .ok (.iaload, 1) := by decide +kernel
theorem d_Van_shift_54 : decode M_Van_shift.2.1 54 = .ok (.iadd, 1) := by decide +kernel
theorem d_Van_shift_55 : decode M_Van_shift.2.1 55 = .ok (.istore_n 3, 1) := by decide +kernel
theorem d_Van_shift_56 : decode M_Van_shift.2.1 56 = .ok (.aload_n 0, 1) := by decide +kernel
theorem d_Van_shift_57 : decode M_Van_shift.2.1 57 = .ok (.getfield 42, 3) := by decide +kernel
theorem d_Van_shift_60 : decode M_Van_shift.2.1 60 = .ok (.iload_n 1, 1) := by decide +kernel
theorem d_Van_shift_61 : decode M_Van_shift.2.1 61 = .ok (.iload_n 2, 1) := by decide +kernel
theorem d_Van_shift_62 : decode M_Van_shift.2.1 62 = .ok (.invokevirtual 160, 3) := by decide +kernel
theorem d_Van_shift_65 : decode M_Van_shift.2.1 65 = .ok (.aload_n 0, 1) := by decide +kernel
theorem d_Van_shift_66 : decode M_Van_shift.2.1 66 = .ok (.getfield 25, 3) := by decide +kernel
theorem d_Van_shift_69 : decode M_Van_shift.2.1 69 = .ok (.aload_n 0, 1) := by decide +kernel
theorem d_Van_shift_70 : decode M_Van_shift.2.1 70 = .ok (.getfield 46, 3) := by decide +kernel
theorem d_Van_shift_73 : decode M_Van_shift.2.1 73 = .ok (.invokevirtual 92, 3) := by decide +kernel
theorem d_Van_shift_76 : decode M_Van_shift.2.1 76 = .ok (.iconst (-1), 1) := by decide +kernel
theorem d_Van_shift_77 : decode M_Van_shift.2.1 77 = .ok (.if_icmp .ne 19, 3) := by decide +kernel
theorem d_Van_shift_80 : decode M_Van_shift.2.1 80 = .ok (.aload_n 0, 1) := by decide +kernel
theorem d_Van_shift_81 : decode M_Van_shift.2.1 81 = .ok (.getfield 42, 3) := by decide +kernel
theorem d_Van_shift_84 : decode M_Van_shift.2.1 84 = .ok (.iload_n 1, 1) := by decide +kernel
theorem d_Van_shift_85 : decode M_Van_shift.2.1 85 = .ok (.iload_n 3, 1) := by decide +kernel
theorem d_Van_shift_86 : decode M_Van_shift.2.1 86 = .ok (.invokevirtual 160, 3) := by decide +kernel
theorem d_Van_shift_89 : decode M_Van_shift.2.1 89 = .ok (.aload_n 0, 1) := by decide +kernel
theorem d_Van_shift_90 : decode M_Van_shift.2.1 90 = .ok (.bipush (-7), 2) := by decide +kernel
theorem d_Van_shift_92 : decode M_Van_shift.2.1 92 = .ok (.invokevirtual 74, 3) := by decide +kernel
theorem d_Van_shift_95 : decode M_Van_shift.2.1 95 = .ok (.ireturn, 1) := by decide +kernel
theorem d_Van_shift_96 : decode M_Van_shift.2.1 96 = .ok (.aload_n 0, 1) := by decide +kernel
theorem d_Van_shift_97 : decode M_Van_shift.2.1 97 = .ok (.getfield 52, 3) := by decide +kernel
theorem d_Van_shift_100 : decode M_Van_shift.2.1 100 = .ok (.invokevirtual 99, 3) := by decide +kernel
theorem d_Van_shift_103 : decode M_Van_shift.2.1 103 = .ok (.iload_n 3, 1) := by decide +kernel
theorem d_Van_shift_104 : decode M_Van_shift.2.1 104 = .ok (.ireturn, 1) := by decide +kernel
theorem d_Van_look_0 : decode M_Van_look.2.1 0 = .ok (.aload_n 0, 1) := by decide +kernel
theorem d_Van_look_1 : decode M_Van_look.2.1 1 = .ok (.getfield 37, 3) := by decide +kernel
theorem d_Van_look_4 : decode M_Van_look.2.1 4 = .ok (.iload_n 1, 1) := by decide +kernel
theorem d_Van_look_5 : decode M_Van_look.2.1 5 = .ok (.invokevirtual 114, 3) := by decide +kernel
theorem d_Van_look_8 : decode M_Van_look.2.1 8 = .ok (.ifCond .ne 10, 3) := by decide +kernel
theorem d_Van_look_11 : decode M_Van_look.2.1 11 = .ok (.aload_n 0, 1) := by decide +kernel
theorem d_Van_look_12 : decode M_Van_look.2.1 12 = .ok (.bipush (-3), 2) := by decide +kernel
theorem d_Van_look_14 : decode M_Van_look.2.1 14 = .ok (.invokevirtual 74, 3) := by decide +kernel
theorem d_Van_look_17 : decode M_Van_look.2.1 17 = .ok (.ireturn, 1) := by decide +kernel
theorem d_Van_look_18 : decode M_Van_look.2.1 18 = .ok (.iload_n 2, 1) := by decide +kernel
theorem d_Van_look_19 : decode M_Van_look.2.1 19 = .ok (.tableswitch 109 0 6 #[41, 51, 61, 71, 81, 91, 100], 41) := by decide +kernel
theorem d_Van_look_60 : decode M_Van_look.2.1 60 = .ok (.aload_n 0, 1) := by decide +kernel
theorem d_Van_look_61 : decode M_Van_look.2.1 61 = .ok (.getfield 37, 3) := by decide +kernel
theorem d_Van_look_64 : decode M_Van_look.2.1 64 = .ok (.getfield 119, 3) := by decide +kernel
theorem d_Van_look_67 : decode M_Van_look.2.1 67 = .ok (.iload_n 1, 1) := by decide +kernel
theorem d_Van_look_68 : decode M_Van_look.2.1 68 = .ok (.iaload, 1) := by decide +kernel
theorem d_Van_look_69 : decode M_Van_look.2.1 69 = .ok (.ireturn, 1) := by decide +kernel
theorem d_Van_look_70 : decode M_Van_look.2.1 70 = .ok (.aload_n 0, 1) := by decide +kernel
theorem d_Van_look_71 : decode M_Van_look.2.1 71 = .ok (.getfield 37, 3) := by decide +kernel
theorem d_Van_look_74 : decode M_Van_look.2.1 74 = .ok (.getfield 166, 3) := by decide +kernel
theorem d_Van_look_77 : decode M_Van_look.2.1 77 = .ok (.iload_n 1, 1) := by decide +kernel
theorem d_Van_look_78 : decode M_Van_look.2.1 78 = .ok (.iaload, 1) := by decide +kernel
theorem d_Van_look_79 : decode M_Van_look.2.1 79 = .ok (.ireturn, 1) := by decide +kernel
theorem d_Van_look_80 : decode M_Van_look.2.1 80 = .ok (.aload_n 0, 1) := by decide +kernel
theorem d_Van_look_81 : decode M_Van_look.2.1 81 = .ok (.getfield 37, 3) := by decide +kernel
theorem d_Van_look_84 : decode M_Van_look.2.1 84 = .ok (.getfield 169, 3) := by decide +kernel
theorem d_Van_look_87 : decode M_Van_look.2.1 87 = .ok (.iload_n 1, 1) := by decide +kernel
theorem d_Van_look_88 : decode M_Van_look.2.1 88 = .ok (.iaload, 1) := by decide +kernel
theorem d_Van_look_89 : decode M_Van_look.2.1 89 = .ok (.ireturn, 1) := by decide +kernel
theorem d_Van_look_90 : decode M_Van_look.2.1 90 = .ok (.aload_n 0, 1) := by decide +kernel
theorem d_Van_look_91 : decode M_Van_look.2.1 91 = .ok (.getfield 37, 3) := by decide +kernel
theorem d_Van_look_94 : decode M_Van_look.2.1 94 = .ok (.getfield 172, 3) := by decide +kernel
theorem d_Van_look_97 : decode M_Van_look.2.1 97 = .ok (.iload_n 1, 1) := by decide +kernel
theorem d_Van_look_98 : decode M_Van_look.2.1 98 = .ok (.iaload, 1) := by decide +kernel
theorem d_Van_look_99 : decode M_Van_look.2.1 99 = .ok (.ireturn, 1) := by decide +kernel
theorem d_Van_look_100 : decode M_Van_look.2.1 100 = .ok (.aload_n 0, 1) := by decide +kernel
theorem d_Van_look_101 : decode M_Van_look.2.1 101 = .ok (.getfield 37, 3) := by decide +kernel
theorem d_Van_look_104 : decode M_Van_look.2.1 104 = .ok (.getfield 122, 3) := by decide +kernel
theorem d_Van_look_107 : decode M_Van_look.2.1 107 = .ok (.iload_n 1, 1) := by decide +kernel
theorem d_Van_look_108 : decode M_Van_look.2.1 108 = .ok (.iaload, 1) := by decide +kernel
theorem d_Van_look_109 : decode M_Van_look.2.1 109 = .ok (.ireturn, 1) := by decide +kernel
theorem d_Van_look_110 : decode M_Van_look.2.1 110 = .ok (.aload_n 0, 1) := by decide +kernel
theorem d_Van_look_111 : decode M_Van_look.2.1 111 = .ok (.getfield 46, 3) := by decide +kernel
theorem d_Van_look_114 : decode M_Van_look.2.1 114 = .ok (.iload_n 1, 1) := by decide +kernel
theorem d_Van_look_115 : decode M_Van_look.2.1 115 = .ok (.invokevirtual 125, 3) := by decide +kernel
theorem d_Van_look_118 : decode M_Van_look.2.1 118 = .ok (.ireturn, 1) := by decide +kernel
theorem d_Van_look_119 : decode M_Van_look.2.1 119 = .ok (.aload_n 0, 1) := by decide +kernel
theorem d_Van_look_120 : decode M_Van_look.2.1 120 = .ok (.getfield 46, 3) := by decide +kernel
theorem d_Van_look_123 : decode M_Van_look.2.1 123 = .ok (.iload_n 1, 1) := by decide +kernel
theorem d_Van_look_124 : decode M_Van_look.2.1 124 = .ok (.invokevirtual 175, 3) := by decide +kernel
theorem d_Van_look_127 : decode M_Van_look.2.1 127 = .ok (.ireturn, 1) := by decide +kernel
theorem d_Van_look_128 : decode M_Van_look.2.1 128 = .ok (.aload_n 0, 1) := by decide +kernel
theorem d_Van_look_129 : decode M_Van_look.2.1 129 = .ok (.bipush (-7), 2) := by decide +kernel
theorem d_Van_look_131 : decode M_Van_look.2.1 131 = .ok (.invokevirtual 74, 3) := by decide +kernel
theorem d_Van_look_134 : decode M_Van_look.2.1 134 = .ok (.ireturn, 1) := by decide +kernel
theorem d_Van_round_0 : decode M_Van_round.2.1 0 = .ok (.aload_n 0, 1) := by decide +kernel
theorem d_Van_round_1 : decode M_Van_round.2.1 1 = .ok (.getfield 42, 3) := by decide +kernel
theorem d_Van_round_4 : decode M_Van_round.2.1 4 = .ok (.iload_n 1, 1) := by decide +kernel
theorem d_Van_round_5 : decode M_Van_round.2.1 5 = .ok (.invokevirtual 163, 3) := by decide +kernel
theorem d_Van_round_8 : decode M_Van_round.2.1 8 = .ok (.ifCond .ne 10, 3) := by decide +kernel
theorem d_Van_round_11 : decode M_Van_round.2.1 11 = .ok (.aload_n 0, 1) := by decide +kernel
theorem d_Van_round_12 : decode M_Van_round.2.1 12 = .ok (.bipush (-3), 2) := by decide +kernel
theorem d_Van_round_14 : decode M_Van_round.2.1 14 = .ok (.invokevirtual 74, 3) := by decide +kernel
theorem d_Van_round_17 : decode M_Van_round.2.1 17 = .ok (.ireturn, 1) := by decide +kernel
theorem d_Van_round_18 : decode M_Van_round.2.1 18 = .ok (.iload_n 2, 1) := by decide +kernel
theorem d_Van_round_19 : decode M_Van_round.2.1 19 = .ok (.iconst (-1), 1) := by decide +kernel
theorem d_Van_round_20 : decode M_Van_round.2.1 20 = .ok (.if_icmp .ne 13, 3) := by decide +kernel
theorem d_Van_round_23 : decode M_Van_round.2.1 23 = .ok (.aload_n 0, 1) := by decide +kernel
theorem d_Van_round_24 : decode M_Van_round.2.1 24 = .ok (.getfield 46, 3) := by decide +kernel
theorem d_Van_round_27 : decode M_Van_round.2.1 27 = .ok (.getfield 178, 3) := by decide +kernel
theorem d_Van_round_30 : decode M_Van_round.2.1 30 = .ok (.iload_n 1, 1) := by decide +kernel
theorem d_Van_round_31 : decode M_Van_round.2.1 31 = .ok (.iaload, 1) := by decide +kernel
theorem d_Van_round_32 : decode M_Van_round.2.1 32 = .ok (.ireturn, 1) := by decide +kernel
theorem d_Van_round_33 : decode M_Van_round.2.1 33 = .ok (.iload_n 2, 1) := by decide +kernel
theorem d_Van_round_34 : decode M_Van_round.2.1 34 = .ok (.ifCond .lt 16, 3) := by decide +kernel
theorem d_Van_round_37 : decode M_Van_round.2.1 37 = .ok (.iload_n 2, 1) := by decide +kernel
theorem d_Van_round_38 : decode M_Van_round.2.1 38 = .ok (.aload_n 0, 1) := by decide +kernel
theorem d_Van_round_39 : decode M_Van_round.2.1 39 = .ok (.getfield 46, 3) := by decide +kernel
theorem d_Van_round_42 : decode M_Van_round.2.1 42 = .ok (.getfield 178, 3) := by decide +kernel
theorem d_Van_round_45 : decode M_Van_round.2.1 45 = .ok (.iload_n 1, 1) := by decide +kernel
theorem d_Van_round_46 : decode M_Van_round.2.1 46 = .ok (.iaload, 1) := by decide +kernel
theorem d_Van_round_47 : decode M_Van_round.2.1 47 = .ok (.if_icmp .lt 10, 3) := by decide +kernel
theorem d_Van_round_50 : decode M_Van_round.2.1 50 = .ok (.aload_n 0, 1) := by decide +kernel
theorem d_Van_round_51 : decode M_Van_round.2.1 51 = .ok (.bipush (-3), 2) := by decide +kernel
theorem d_Van_round_53 : decode M_Van_round.2.1 53 = .ok (.invokevirtual 74, 3) := by decide +kernel
theorem d_Van_round_56 : decode M_Van_round.2.1 56 = .ok (.ireturn, 1) := by decide +kernel
theorem d_Van_round_57 : decode M_Van_round.2.1 57 = .ok (.aload_n 0, 1) := by decide +kernel
theorem d_Van_round_58 : decode M_Van_round.2.1 58 = .ok (.getfield 46, 3) := by decide +kernel
theorem d_Van_round_61 : decode M_Van_round.2.1 61 = .ok (.getfield 181, 3) := by decide +kernel
theorem d_Van_round_64 : decode M_Van_round.2.1 64 = .ok (.iload_n 1, 1) := by decide +kernel
theorem d_Van_round_65 : decode M_Van_round.2.1 65 = .ok (.aaload, 1) := by decide +kernel
theorem d_Van_round_66 : decode M_Van_round.2.1 66 = .ok (.iload_n 2, 1) := by decide +kernel
theorem d_Van_round_67 : decode M_Van_round.2.1 67 = .ok (.iaload, 1) := by decide +kernel
theorem d_Van_round_68 : decode M_Van_round.2.1 68 = .ok (.ireturn, 1) := by decide +kernel
theorem d_Van_when_0 : decode M_Van_when.2.1 0 = .ok (.aload_n 0, 1) := by decide +kernel
theorem d_Van_when_1 : decode M_Van_when.2.1 1 = .ok (.getfield 42, 3) := by decide +kernel
theorem d_Van_when_4 : decode M_Van_when.2.1 4 = .ok (.iload_n 1, 1) := by decide +kernel
theorem d_Van_when_5 : decode M_Van_when.2.1 5 = .ok (.invokevirtual 163, 3) := by decide +kernel
theorem d_Van_when_8 : decode M_Van_when.2.1 8 = .ok (.ifCond .ne 10, 3) := by decide +kernel
theorem d_Van_when_11 : decode M_Van_when.2.1 11 = .ok (.aload_n 0, 1) := by decide +kernel
theorem d_Van_when_12 : decode M_Van_when.2.1 12 = .ok (.bipush (-3), 2) := by decide +kernel
theorem d_Van_when_14 : decode M_Van_when.2.1 14 = .ok (.invokevirtual 74, 3) := by decide +kernel
theorem d_Van_when_17 : decode M_Van_when.2.1 17 = .ok (.ireturn, 1) := by decide +kernel
theorem d_Van_when_18 : decode M_Van_when.2.1 18 = .ok (.aload_n 0, 1) := by decide +kernel
theorem d_Van_when_19 : decode M_Van_when.2.1 19 = .ok (.getfield 46, 3) := by decide +kernel
theorem d_Van_when_22 : decode M_Van_when.2.1 22 = .ok (.getfield 178, 3) := by decide +kernel
theorem d_Van_when_25 : decode M_Van_when.2.1 25 = .ok (.iload_n 1, 1) := by decide +kernel
theorem d_Van_when_26 : decode M_Van_when.2.1 26 = .ok (.iaload, 1) := by decide +kernel
theorem d_Van_when_27 : decode M_Van_when.2.1 27 = .ok (.istore 4, 2) := by decide +kernel
theorem d_Van_when_29 : decode M_Van_when.2.1 29 = .ok (.iload_n 2, 1) := by decide +kernel
theorem d_Van_when_30 : decode M_Van_when.2.1 30 = .ok (.ifCond .lt 14, 3) := by decide +kernel
theorem d_Van_when_33 : decode M_Van_when.2.1 33 = .ok (.iload_n 2, 1) := by decide +kernel
theorem d_Van_when_34 : decode M_Van_when.2.1 34 = .ok (.iload 4, 2) := by decide +kernel
theorem d_Van_when_36 : decode M_Van_when.2.1 36 = .ok (.if_icmp .gt 8, 3) := by decide +kernel
theorem d_Van_when_39 : decode M_Van_when.2.1 39 = .ok (.iload 4, 2) := by decide +kernel
theorem d_Van_when_41 : decode M_Van_when.2.1 41 = .ok (.ifCond .ne 10, 3) := by decide +kernel
theorem d_Van_when_44 : decode M_Van_when.2.1 44 = .ok (.aload_n 0, 1) := by decide +kernel
theorem d_Van_when_45 : decode M_Van_when.2.1 45 = .ok (.bipush (-3), 2) := by decide +kernel
theorem d_Van_when_47 : decode M_Van_when.2.1 47 = .ok (.invokevirtual 74, 3) := by decide +kernel
theorem d_Van_when_50 : decode M_Van_when.2.1 50 = .ok (.ireturn, 1) := by decide +kernel
theorem d_Van_when_51 : decode M_Van_when.2.1 51 = .ok (.iload_n 3, 1) := by decide +kernel
theorem d_Van_when_52 : decode M_Van_when.2.1 52 = .ok (.ifCond .lt 18, 3) := by decide +kernel
theorem d_Van_when_55 : decode M_Van_when.2.1 55 = .ok (.iload_n 3, 1) := by decide +kernel
theorem d_Van_when_56 : decode M_Van_when.2.1 56 = .ok (.iconst 3, 1) := by decide +kernel
theorem d_Van_when_57 : decode M_Van_when.2.1 57 = .ok (.if_icmp .gt 13, 3) := by decide +kernel
theorem d_Van_when_60 : decode M_Van_when.2.1 60 = .ok (.iload_n 2, 1) := by decide +kernel
theorem d_Van_when_61 : decode M_Van_when.2.1 61 = .ok (.iload 4, 2) := by decide +kernel
theorem d_Van_when_63 : decode M_Van_when.2.1 63 = .ok (.if_icmp .ne 14, 3) := by decide +kernel
theorem d_Van_when_66 : decode M_Van_when.2.1 66 = .ok (.iload_n 3, 1) := by decide +kernel
theorem d_Van_when_67 : decode M_Van_when.2.1 67 = .ok (.ifCond .eq 10, 3) := by decide +kernel
theorem d_Van_when_70 : decode M_Van_when.2.1 70 = .ok (.aload_n 0, 1) := by decide +kernel
theorem d_Van_when_71 : decode M_Van_when.2.1 71 = .ok (.bipush (-7), 2) := by decide +kernel
theorem d_Van_when_73 : decode M_Van_when.2.1 73 = .ok (.invokevirtual 74, 3) := by decide +kernel
theorem d_Van_when_76 : decode M_Van_when.2.1 76 = .ok (.ireturn, 1) := by decide +kernel
theorem d_Van_when_77 : decode M_Van_when.2.1 77 = .ok (.aload_n 0, 1) := by decide +kernel
theorem d_Van_when_78 : decode M_Van_when.2.1 78 = .ok (.getfield 25, 3) := by decide +kernel
theorem d_Van_when_81 : decode M_Van_when.2.1 81 = .ok (.aload_n 0, 1) := by decide +kernel
theorem d_Van_when_82 : decode M_Van_when.2.1 82 = .ok (.getfield 46, 3) := by decide +kernel
theorem d_Van_when_85 : decode M_Van_when.2.1 85 = .ok (.iload_n 1, 1) := by decide +kernel
theorem d_Van_when_86 : decode M_Van_when.2.1 86 = .ok (.invokevirtual 185, 3) := by decide +kernel
theorem d_Van_when_89 : decode M_Van_when.2.1 89 = .ok (.pop, 1) := by decide +kernel
theorem d_Van_when_90 : decode M_Van_when.2.1 90 = .ok (.iload_n 2, 1) := by decide +kernel
theorem d_Van_when_91 : decode M_Van_when.2.1 91 = .ok (.iload 4, 2) := by decide +kernel
theorem d_Van_when_93 : decode M_Van_when.2.1 93 = .ok (.if_icmp .ne 11, 3) := by decide +kernel
theorem d_Van_when_96 : decode M_Van_when.2.1 96 = .ok (.aload_n 0, 1) := by decide +kernel
theorem d_Van_when_97 : decode M_Van_when.2.1 97 = .ok (.getfield 25, 3) := by decide +kernel
theorem d_Van_when_100 : decode M_Van_when.2.1 100 = .ok (.getfield 189, 3) := by decide +kernel
theorem d_Van_when_103 : decode M_Van_when.2.1 103 = .ok (.ireturn, 1) := by decide +kernel
theorem d_Van_when_104 : decode M_Van_when.2.1 104 = .ok (.iload_n 3, 1) := by decide +kernel
theorem d_Van_when_105 : decode M_Van_when.2.1 105 = .ok (.ifCond .ne 13, 3) := by decide +kernel
theorem d_Van_when_108 : decode M_Van_when.2.1 108 = .ok (.aload_n 0, 1) := by decide +kernel
theorem d_Van_when_109 : decode M_Van_when.2.1 109 = .ok (.getfield 25, 3) := by decide +kernel
theorem d_Van_when_112 : decode M_Van_when.2.1 112 = .ok (.getfield 192, 3) := by decide +kernel
theorem d_Van_when_115 : decode M_Van_when.2.1 115 = .ok (.iload_n 2, 1) := by decide +kernel
theorem d_Van_when_116 : decode M_Van_when.2.1 116 = .ok (.iaload, 1) := by decide +kernel
theorem d_Van_when_117 : decode M_Van_when.2.1 117 = .ok (.ireturn, 1) := by decide +kernel
theorem d_Van_when_118 : decode M_Van_when.2.1 118 = .ok (.iload_n 3, 1) := by decide +kernel
theorem d_Van_when_119 : decode M_Van_when.2.1 119 = .ok (.iconst 1, 1) := by decide +kernel
theorem d_Van_when_120 : decode M_Van_when.2.1 120 = .ok (.if_icmp .ne 13, 3) := by decide +kernel
theorem d_Van_when_123 : decode M_Van_when.2.1 123 = .ok (.aload_n 0, 1) := by decide +kernel
theorem d_Van_when_124 : decode M_Van_when.2.1 124 = .ok (.getfield 25, 3) := by decide +kernel
theorem d_Van_when_127 : decode M_Van_when.2.1 127 = .ok (.getfield 195, 3) := by decide +kernel
theorem d_Van_when_130 : decode M_Van_when.2.1 130 = .ok (.iload_n 2, 1) := by decide +kernel
theorem d_Van_when_131 : decode M_Van_when.2.1 131 = .ok (.iaload, 1) := by decide +kernel
theorem d_Van_when_132 : decode M_Van_when.2.1 132 = .ok (.ireturn, 1) := by decide +kernel
theorem d_Van_when_133 : decode M_Van_when.2.1 133 = .ok (.iload_n 3, 1) := by decide +kernel
theorem d_Van_when_134 : decode M_Van_when.2.1 134 = .ok (.iconst 2, 1) := by decide +kernel
theorem d_Van_when_135 : decode M_Van_when.2.1 135 = .ok (.if_icmp .ne 15, 3) := by decide +kernel
theorem d_Van_when_138 : decode M_Van_when.2.1 138 = .ok (.aload_n 0, 1) := by decide +kernel
theorem d_Van_when_139 : decode M_Van_when.2.1 139 = .ok (.getfield 25, 3) := by decide +kernel
theorem d_Van_when_142 : decode M_Van_when.2.1 142 = .ok (.getfield 198, 3) := by decide +kernel
theorem d_Van_when_145 : decode M_Van_when.2.1 145 = .ok (.iload_n 2, 1) := by decide +kernel
theorem d_Van_when_146 : decode M_Van_when.2.1 146 = .ok (.iaload, 1) := by decide +kernel
theorem d_Van_when_147 : decode M_Van_when.2.1 147 = .ok (.goto 12, 3) := by decide +kernel
theorem d_Van_when_150 : decode M_Van_when.2.1 150 = .ok (.aload_n 0, 1) := by decide +kernel
theorem d_Van_when_151 : decode M_Van_when.2.1 151 = .ok (.getfield 25, 3) := by decide +kernel
theorem d_Van_when_154 : decode M_Van_when.2.1 154 = .ok (.getfield 201, 3) := by decide +kernel
theorem d_Van_when_157 : decode M_Van_when.2.1 157 = .ok (.iload_n 2, 1) := by decide +kernel
theorem d_Van_when_158 : decode M_Van_when.2.1 158 = .ok (.iaload, 1) := by decide +kernel
theorem d_Van_when_159 : decode M_Van_when.2.1 159 = .ok (.ireturn, 1) := by decide +kernel
theorem d_Van_cost_0 : decode M_Van_cost.2.1 0 = .ok (.iload_n 1, 1) := by decide +kernel
theorem d_Van_cost_1 : decode M_Van_cost.2.1 1 = .ok (.iconst (-1), 1) := by decide +kernel
theorem d_Van_cost_2 : decode M_Van_cost.2.1 2 = .ok (.if_icmp .ne 15, 3) := by decide +kernel
theorem d_Van_cost_5 : decode M_Van_cost.2.1 5 = .ok (.aload_n 0, 1) := by decide +kernel
theorem d_Van_cost_6 : decode M_Van_cost.2.1 6 = .ok (.getfield 25, 3) := by decide +kernel
theorem d_Van_cost_9 : decode M_Van_cost.2.1 9 = .ok (.aload_n 0, 1) := by decide +kernel
theorem d_Van_cost_10 : decode M_Van_cost.2.1 10 = .ok (.getfield 46, 3) := by decide +kernel
theorem d_Van_cost_13 : decode M_Van_cost.2.1 13 = .ok (.invokevirtual 92, 3) := by decide +kernel
theorem d_Van_cost_16 : decode M_Van_cost.2.1 16 = .ok (.ireturn, 1) := by decide +kernel
theorem d_Van_cost_17 : decode M_Van_cost.2.1 17 = .ok (.aload_n 0, 1) := by decide +kernel
theorem d_Van_cost_18 : decode M_Van_cost.2.1 18 = .ok (.getfield 42, 3) := by decide +kernel
theorem d_Van_cost_21 : decode M_Van_cost.2.1 21 = .ok (.iload_n 1, 1) := by decide +kernel
theorem d_Van_cost_22 : decode M_Van_cost.2.1 22 = .ok (.invokevirtual 163, 3) := by decide +kernel
theorem d_Van_cost_25 : decode M_Van_cost.2.1 25 = .ok (.ifCond .ne 10, 3) := by decide +kernel
theorem d_Van_cost_28 : decode M_Van_cost.2.1 28 = .ok (.aload_n 0, 1) := by decide +kernel
theorem d_Van_cost_29 : decode M_Van_cost.2.1 29 = .ok (.bipush (-3), 2) := by decide +kernel
theorem d_Van_cost_31 : decode M_Van_cost.2.1 31 = .ok (.invokevirtual 74, 3) := by decide +kernel
theorem d_Van_cost_34 : decode M_Van_cost.2.1 34 = .ok (.ireturn, 1) := by decide +kernel
theorem d_Van_cost_35 : decode M_Van_cost.2.1 35 = .ok (.aload_n 0, 1) := by decide +kernel
theorem d_Van_cost_36 : decode M_Van_cost.2.1 36 = .ok (.getfield 25, 3) := by decide +kernel
theorem d_Van_cost_39 : decode M_Van_cost.2.1 39 = .ok (.aload_n 0, 1) := by decide +kernel
theorem d_Van_cost_40 : decode M_Van_cost.2.1 40 = .ok (.getfield 46, 3) := by decide +kernel
theorem d_Van_cost_43 : decode M_Van_cost.2.1 43 = .ok (.iload_n 1, 1) := by decide +kernel
theorem d_Van_cost_44 : decode M_Van_cost.2.1 44 = .ok (.invokevirtual 185, 3) := by decide +kernel
theorem d_Van_cost_47 : decode M_Van_cost.2.1 47 = .ok (.pop, 1) := by decide +kernel
theorem d_Van_cost_48 : decode M_Van_cost.2.1 48 = .ok (.aload_n 0, 1) := by decide +kernel
theorem d_Van_cost_49 : decode M_Van_cost.2.1 49 = .ok (.getfield 25, 3) := by decide +kernel
theorem d_Van_cost_52 : decode M_Van_cost.2.1 52 = .ok (.getfield 204, 3) := by decide +kernel
theorem d_Van_cost_55 : decode M_Van_cost.2.1 55 = .ok (.ireturn, 1) := by decide +kernel
theorem d_Van_why_0 : decode M_Van_why.2.1 0 = .ok (.aload_n 0, 1) := by decide +kernel
theorem d_Van_why_1 : decode M_Van_why.2.1 1 = .ok (.getfield 37, 3) := by decide +kernel
theorem d_Van_why_4 : decode M_Van_why.2.1 4 = .ok (.iload_n 1, 1) := by decide +kernel
theorem d_Van_why_5 : decode M_Van_why.2.1 5 = .ok (.invokevirtual 114, 3) := by decide +kernel
theorem d_Van_why_8 : decode M_Van_why.2.1 8 = .ok (.ifCond .eq 12, 3) := by decide +kernel
theorem d_Van_why_11 : decode M_Van_why.2.1 11 = .ok (.aload_n 0, 1) := by decide +kernel
theorem d_Van_why_12 : decode M_Van_why.2.1 12 = .ok (.iload_n 2, 1) := by decide +kernel
theorem d_Van_why_13 : decode M_Van_why.2.1 13 = .ok (.iload_n 3, 1) := by decide +kernel
theorem d_Van_why_14 : decode M_Van_why.2.1 14 = .ok (.invokevirtual 207, 3) := by decide +kernel
theorem d_Van_why_17 : decode M_Van_why.2.1 17 = .ok (.ifCond .ne 10, 3) := by decide +kernel
theorem d_Van_why_20 : decode M_Van_why.2.1 20 = .ok (.aload_n 0, 1) := by decide +kernel
theorem d_Van_why_21 : decode M_Van_why.2.1 21 = .ok (.bipush (-3), 2) := by decide +kernel
theorem d_Van_why_23 : decode M_Van_why.2.1 23 = .ok (.invokevirtual 74, 3) := by decide +kernel
theorem d_Van_why_26 : decode M_Van_why.2.1 26 = .ok (.ireturn, 1) := by decide +kernel
theorem d_Van_why_27 : decode M_Van_why.2.1 27 = .ok (.aload_n 0, 1) := by decide +kernel
theorem d_Van_why_28 : decode M_Van_why.2.1 28 = .ok (.getfield 46, 3) := by decide +kernel
theorem d_Van_why_31 : decode M_Van_why.2.1 31 = .ok (.iload_n 1, 1) := by decide +kernel
theorem d_Van_why_32 : decode M_Van_why.2.1 32 = .ok (.invokevirtual 125, 3) := by decide +kernel
theorem d_Van_why_35 : decode M_Van_why.2.1 35 = .ok (.iconst (-1), 1) := by decide +kernel
theorem d_Van_why_36 : decode M_Van_why.2.1 36 = .ok (.if_icmp .eq 10, 3) := by decide +kernel
theorem d_Van_why_39 : decode M_Van_why.2.1 39 = .ok (.aload_n 0, 1) := by decide +kernel
theorem d_Van_why_40 : decode M_Van_why.2.1 40 = .ok (.bipush (-7), 2) := by decide +kernel
theorem d_Van_why_42 : decode M_Van_why.2.1 42 = .ok (.invokevirtual 74, 3) := by decide +kernel
theorem d_Van_why_45 : decode M_Van_why.2.1 45 = .ok (.ireturn, 1) := by decide +kernel
theorem d_Van_why_46 : decode M_Van_why.2.1 46 = .ok (.aload_n 0, 1) := by decide +kernel
theorem d_Van_why_47 : decode M_Van_why.2.1 47 = .ok (.getfield 20, 3) := by decide +kernel
theorem d_Van_why_50 : decode M_Van_why.2.1 50 = .ok (.aload_n 0, 1) := by decide +kernel
theorem d_Van_why_51 : decode M_Van_why.2.1 51 = .ok (.getfield 46, 3) := by decide +kernel
theorem d_Van_why_54 : decode M_Van_why.2.1 54 = .ok (.invokevirtual 210, 3) := by decide +kernel
theorem d_Van_why_57 : decode M_Van_why.2.1 57 = .ok (.aload_n 0, 1) := by decide +kernel
theorem d_Van_why_58 : decode M_Van_why.2.1 58 = .ok (.getfield 20, 3) := by decide +kernel
theorem d_Van_why_61 : decode M_Van_why.2.1 61 = .ok (.iload_n 2, 1) := by decide +kernel
theorem d_Van_why_62 : decode M_Van_why.2.1 62 = .ok (.iload_n 3, 1) := by decide +kernel
theorem d_Van_why_63 : decode M_Van_why.2.1 63 = .ok (.iload_n 1, 1) := by decide +kernel
theorem d_Van_why_64 : decode M_Van_why.2.1 64 = .ok (.invokevirtual 214, 3) := by decide +kernel
theorem d_Van_why_67 : decode M_Van_why.2.1 67 = .ok (.aload_n 0, 1) := by decide +kernel
theorem d_Van_why_68 : decode M_Van_why.2.1 68 = .ok (.getfield 25, 3) := by decide +kernel
theorem d_Van_why_71 : decode M_Van_why.2.1 71 = .ok (.aload_n 0, 1) := by decide +kernel
theorem d_Van_why_72 : decode M_Van_why.2.1 72 = .ok (.getfield 20, 3) := by decide +kernel
theorem d_Van_why_75 : decode M_Van_why.2.1 75 = .ok (.iload_n 2, 1) := by decide +kernel
theorem d_Van_why_76 : decode M_Van_why.2.1 76 = .ok (.invokevirtual 185, 3) := by decide +kernel
theorem d_Van_why_79 : decode M_Van_why.2.1 79 = .ok (.istore 4, 2) := by decide +kernel
theorem d_Van_why_81 : decode M_Van_why.2.1 81 = .ok (.aload_n 0, 1) := by decide +kernel
theorem d_Van_why_82 : decode M_Van_why.2.1 82 = .ok (.aload_n 0, 1) := by decide +kernel
theorem d_Van_why_83 : decode M_Van_why.2.1 83 = .ok (.getfield 25, 3) := by decide +kernel
theorem d_Van_why_86 : decode M_Van_why.2.1 86 = .ok (.getfield 217, 3) := by decide +kernel
theorem d_Van_why_89 : decode M_Van_why.2.1 89 = .ok (.putfield 64, 3) := by decide +kernel
theorem d_Van_why_92 : decode M_Van_why.2.1 92 = .ok (.iload 4, 2) := by decide +kernel
theorem d_Van_why_94 : decode M_Van_why.2.1 94 = .ok (.ireturn, 1) := by decide +kernel
theorem d_Van_isGap_0 : decode M_Van_isGap.2.1 0 = .ok (.aload_n 0, 1) := by decide +kernel
theorem d_Van_isGap_1 : decode M_Van_isGap.2.1 1 = .ok (.getfield 42, 3) := by decide +kernel
theorem d_Van_isGap_4 : decode M_Van_isGap.2.1 4 = .ok (.iload_n 1, 1) := by decide +kernel
theorem d_Van_isGap_5 : decode M_Van_isGap.2.1 5 = .ok (.invokevirtual 163, 3) := by decide +kernel
theorem d_Van_isGap_8 : decode M_Van_isGap.2.1 8 = .ok (.ifCond .eq 24, 3) := by decide +kernel
theorem d_Van_isGap_11 : decode M_Van_isGap.2.1 11 = .ok (.iload_n 2, 1) := by decide +kernel
theorem d_Van_isGap_12 : decode M_Van_isGap.2.1 12 = .ok (.ifCond .lt 20, 3) := by decide +kernel
theorem d_Van_isGap_15 : decode M_Van_isGap.2.1 15 = .ok (.iload_n 2, 1) := by decide +kernel
theorem d_Van_isGap_16 : decode M_Van_isGap.2.1 16 = .ok (.aload_n 0, 1) := by decide +kernel
theorem d_Van_isGap_17 : decode M_Van_isGap.2.1 17 = .ok (.getfield 46, 3) := by decide +kernel
theorem d_Van_isGap_20 : decode M_Van_isGap.2.1 20 = .ok (.getfield 178, 3) := by decide +kernel
theorem d_Van_isGap_23 : decode M_Van_isGap.2.1 23 = .ok (.iload_n 1, 1) := by decide +kernel
theorem d_Van_isGap_24 : decode M_Van_isGap.2.1 24 = .ok (.iaload, 1) := by decide +kernel
theorem d_Van_isGap_25 : decode M_Van_isGap.2.1 25 = .ok (.if_icmp .gt 7, 3) := by decide +kernel
theorem d_Van_isGap_28 : decode M_Van_isGap.2.1 28 = .ok (.iconst 1, 1) := by decide +kernel
theorem d_Van_isGap_29 : decode M_Van_isGap.2.1 29 = .ok (.goto 4, 3) := by decide +kernel
theorem d_Van_isGap_32 : decode M_Van_isGap.2.1 32 = .ok (.iconst 0, 1) := by decide +kernel
theorem d_Van_isGap_33 : decode M_Van_isGap.2.1 33 = .ok (.ireturn, 1) := by decide +kernel
theorem d_Van_where_0 : decode M_Van_where.2.1 0 = .ok (.aload_n 0, 1) := by decide +kernel
theorem d_Van_where_1 : decode M_Van_where.2.1 1 = .ok (.getfield 64, 3) := by decide +kernel
theorem d_Van_where_4 : decode M_Van_where.2.1 4 = .ok (.ireturn, 1) := by decide +kernel
theorem d_Van_put_0 : decode M_Van_put.2.1 0 = .ok (.aload_n 0, 1) := by decide +kernel
theorem d_Van_put_1 : decode M_Van_put.2.1 1 = .ok (.getfield 37, 3) := by decide +kernel
theorem d_Van_put_4 : decode M_Van_put.2.1 4 = .ok (.iload_n 1, 1) := by decide +kernel
theorem d_Van_put_5 : decode M_Van_put.2.1 5 = .ok (.invokevirtual 114, 3) := by decide +kernel
theorem d_Van_put_8 : decode M_Van_put.2.1 8 = .ok (.ifCond .eq 12, 3) := by decide +kernel
theorem d_Van_put_11 : decode M_Van_put.2.1 11 = .ok (.aload_n 0, 1) := by decide +kernel
theorem d_Van_put_12 : decode M_Van_put.2.1 12 = .ok (.iload_n 2, 1) := by decide +kernel
theorem d_Van_put_13 : decode M_Van_put.2.1 13 = .ok (.iload_n 3, 1) := by decide +kernel
theorem d_Van_put_14 : decode M_Van_put.2.1 14 = .ok (.invokevirtual 207, 3) := by decide +kernel
theorem d_Van_put_17 : decode M_Van_put.2.1 17 = .ok (.ifCond .ne 10, 3) := by decide +kernel
theorem d_Van_put_20 : decode M_Van_put.2.1 20 = .ok (.aload_n 0, 1) := by decide +kernel
theorem d_Van_put_21 : decode M_Van_put.2.1 21 = .ok (.bipush (-3), 2) := by decide +kernel
theorem d_Van_put_23 : decode M_Van_put.2.1 23 = .ok (.invokevirtual 74, 3) := by decide +kernel
theorem d_Van_put_26 : decode M_Van_put.2.1 26 = .ok (.ireturn, 1) := by decide +kernel
theorem d_Van_put_27 : decode M_Van_put.2.1 27 = .ok (.aload_n 0, 1) := by decide +kernel
theorem d_Van_put_28 : decode M_Van_put.2.1 28 = .ok (.getfield 46, 3) := by decide +kernel
theorem d_Van_put_31 : decode M_Van_put.2.1 31 = .ok (.iload_n 1, 1) := by decide +kernel
theorem d_Van_put_32 : decode M_Van_put.2.1 32 = .ok (.invokevirtual 125, 3) := by decide +kernel
theorem d_Van_put_35 : decode M_Van_put.2.1 35 = .ok (.iconst (-1), 1) := by decide +kernel
theorem d_Van_put_36 : decode M_Van_put.2.1 36 = .ok (.if_icmp .eq 10, 3) := by decide +kernel
theorem d_Van_put_39 : decode M_Van_put.2.1 39 = .ok (.aload_n 0, 1) := by decide +kernel
theorem d_Van_put_40 : decode M_Van_put.2.1 40 = .ok (.bipush (-7), 2) := by decide +kernel
theorem d_Van_put_42 : decode M_Van_put.2.1 42 = .ok (.invokevirtual 74, 3) := by decide +kernel
theorem d_Van_put_45 : decode M_Van_put.2.1 45 = .ok (.ireturn, 1) := by decide +kernel
theorem d_Van_put_46 : decode M_Van_put.2.1 46 = .ok (.aload_n 0, 1) := by decide +kernel
theorem d_Van_put_47 : decode M_Van_put.2.1 47 = .ok (.getfield 20, 3) := by decide +kernel
theorem d_Van_put_50 : decode M_Van_put.2.1 50 = .ok (.aload_n 0, 1) := by decide +kernel
theorem d_Van_put_51 : decode M_Van_put.2.1 51 = .ok (.getfield 46, 3) := by decide +kernel
theorem d_Van_put_54 : decode M_Van_put.2.1 54 = .ok (.invokevirtual 210, 3) := by decide +kernel
theorem d_Van_put_57 : decode M_Van_put.2.1 57 = .ok (.aload_n 0, 1) := by decide +kernel
theorem d_Van_put_58 : decode M_Van_put.2.1 58 = .ok (.getfield 20, 3) := by decide +kernel
theorem d_Van_put_61 : decode M_Van_put.2.1 61 = .ok (.iload_n 2, 1) := by decide +kernel
theorem d_Van_put_62 : decode M_Van_put.2.1 62 = .ok (.iload_n 3, 1) := by decide +kernel
theorem d_Van_put_63 : decode M_Van_put.2.1 63 = .ok (.iload_n 1, 1) := by decide +kernel
theorem d_Van_put_64 : decode M_Van_put.2.1 64 = .ok (.invokevirtual 214, 3) := by decide +kernel
theorem d_Van_put_67 : decode M_Van_put.2.1 67 = .ok (.aload_n 0, 1) := by decide +kernel
theorem d_Van_put_68 : decode M_Van_put.2.1 68 = .ok (.invokevirtual 220, 3) := by decide +kernel
theorem d_Van_put_71 : decode M_Van_put.2.1 71 = .ok (.ireturn, 1) := by decide +kernel
theorem d_Van_settle_0 : decode M_Van_settle.2.1 0 = .ok (.aload_n 0, 1) := by decide +kernel
theorem d_Van_settle_1 : decode M_Van_settle.2.1 1 = .ok (.getfield 25, 3) := by decide +kernel
theorem d_Van_settle_4 : decode M_Van_settle.2.1 4 = .ok (.aload_n 0, 1) := by decide +kernel
theorem d_Van_settle_5 : decode M_Van_settle.2.1 5 = .ok (.getfield 20, 3) := by decide +kernel
theorem d_Van_settle_8 : decode M_Van_settle.2.1 8 = .ok (.invokevirtual 92, 3) := by decide +kernel
theorem d_Van_settle_11 : decode M_Van_settle.2.1 11 = .ok (.istore_n 1, 1) := by decide +kernel
theorem d_Van_settle_12 : decode M_Van_settle.2.1 12 = .ok (.iload_n 1, 1) := by decide +kernel
theorem d_Van_settle_13 : decode M_Van_settle.2.1 13 = .ok (.iconst (-1), 1) := by decide +kernel
theorem d_Van_settle_14 : decode M_Van_settle.2.1 14 = .ok (.if_icmp .ne 10, 3) := by decide +kernel
theorem d_Van_settle_17 : decode M_Van_settle.2.1 17 = .ok (.aload_n 0, 1) := by decide +kernel
theorem d_Van_settle_18 : decode M_Van_settle.2.1 18 = .ok (.bipush (-7), 2) := by decide +kernel
theorem d_Van_settle_20 : decode M_Van_settle.2.1 20 = .ok (.invokevirtual 74, 3) := by decide +kernel
theorem d_Van_settle_23 : decode M_Van_settle.2.1 23 = .ok (.ireturn, 1) := by decide +kernel
theorem d_Van_settle_24 : decode M_Van_settle.2.1 24 = .ok (.aload_n 0, 1) := by decide +kernel
theorem d_Van_settle_25 : decode M_Van_settle.2.1 25 = .ok (.invokevirtual 248, 3) := by decide +kernel
theorem d_Van_settle_28 : decode M_Van_settle.2.1 28 = .ok (.iload_n 1, 1) := by decide +kernel
theorem d_Van_settle_29 : decode M_Van_settle.2.1 29 = .ok (.ireturn, 1) := by decide +kernel
theorem d_Van_adopt_0 : decode M_Van_adopt.2.1 0 = .ok (.aload_n 0, 1) := by decide +kernel
theorem d_Van_adopt_1 : decode M_Van_adopt.2.1 1 = .ok (.getfield 20, 3) := by decide +kernel
theorem d_Van_adopt_4 : decode M_Van_adopt.2.1 4 = .ok (.aload_n 0, 1) := by decide +kernel
theorem d_Van_adopt_5 : decode M_Van_adopt.2.1 5 = .ok (.getfield 46, 3) := by decide +kernel
theorem d_Van_adopt_8 : decode M_Van_adopt.2.1 8 = .ok (.invokevirtual 284, 3) := by decide +kernel
theorem d_Van_adopt_11 : decode M_Van_adopt.2.1 11 = .ok (.ifCond .eq 4, 3) := by decide +kernel
theorem d_Van_adopt_14 : decode M_Van_adopt.2.1 14 = .ok (.return_, 1) := by decide +kernel
theorem d_Van_adopt_15 : decode M_Van_adopt.2.1 15 = .ok (.aload_n 0, 1) := by decide +kernel
theorem d_Van_adopt_16 : decode M_Van_adopt.2.1 16 = .ok (.getfield 52, 3) := by decide +kernel
theorem d_Van_adopt_19 : decode M_Van_adopt.2.1 19 = .ok (.aload_n 0, 1) := by decide +kernel
theorem d_Van_adopt_20 : decode M_Van_adopt.2.1 20 = .ok (.getfield 46, 3) := by decide +kernel
theorem d_Van_adopt_23 : decode M_Van_adopt.2.1 23 = .ok (.invokevirtual 288, 3) := by decide +kernel
theorem d_Van_adopt_26 : decode M_Van_adopt.2.1 26 = .ok (.aload_n 0, 1) := by decide +kernel
theorem d_Van_adopt_27 : decode M_Van_adopt.2.1 27 = .ok (.getfield 46, 3) := by decide +kernel
theorem d_Van_adopt_30 : decode M_Van_adopt.2.1 30 = .ok (.aload_n 0, 1) := by decide +kernel
theorem d_Van_adopt_31 : decode M_Van_adopt.2.1 31 = .ok (.getfield 20, 3) := by decide +kernel
theorem d_Van_adopt_34 : decode M_Van_adopt.2.1 34 = .ok (.invokevirtual 210, 3) := by decide +kernel
theorem d_Van_adopt_37 : decode M_Van_adopt.2.1 37 = .ok (.return_, 1) := by decide +kernel
theorem d_Van_pair_0 : decode M_Van_pair.2.1 0 = .ok (.aload_n 0, 1) := by decide +kernel
theorem d_Van_pair_1 : decode M_Van_pair.2.1 1 = .ok (.getfield 37, 3) := by decide +kernel
theorem d_Van_pair_4 : decode M_Van_pair.2.1 4 = .ok (.iload_n 1, 1) := by decide +kernel
theorem d_Van_pair_5 : decode M_Van_pair.2.1 5 = .ok (.invokevirtual 114, 3) := by decide +kernel
theorem d_Van_pair_8 : decode M_Van_pair.2.1 8 = .ok (.ifCond .eq 14, 3) := by decide +kernel
theorem d_Van_pair_11 : decode M_Van_pair.2.1 11 = .ok (.aload_n 0, 1) := by decide +kernel
theorem d_Van_pair_12 : decode M_Van_pair.2.1 12 = .ok (.getfield 42, 3) := by decide +kernel
theorem d_Van_pair_15 : decode M_Van_pair.2.1 15 = .ok (.iload_n 2, 1) := by decide +kernel
theorem d_Van_pair_16 : decode M_Van_pair.2.1 16 = .ok (.invokevirtual 163, 3) := by decide +kernel
theorem d_Van_pair_19 : decode M_Van_pair.2.1 19 = .ok (.ifCond .ne 10, 3) := by decide +kernel
theorem d_Van_pair_22 : decode M_Van_pair.2.1 22 = .ok (.aload_n 0, 1) := by decide +kernel
theorem d_Van_pair_23 : decode M_Van_pair.2.1 23 = .ok (.bipush (-3), 2) := by decide +kernel
theorem d_Van_pair_25 : decode M_Van_pair.2.1 25 = .ok (.invokevirtual 74, 3) := by decide +kernel
theorem d_Van_pair_28 : decode M_Van_pair.2.1 28 = .ok (.ireturn, 1) := by decide +kernel
theorem d_Van_pair_29 : decode M_Van_pair.2.1 29 = .ok (.aload_n 0, 1) := by decide +kernel
theorem d_Van_pair_30 : decode M_Van_pair.2.1 30 = .ok (.getfield 37, 3) := by decide +kernel
theorem d_Van_pair_33 : decode M_Van_pair.2.1 33 = .ok (.getfield 119, 3) := by decide +kernel
theorem d_Van_pair_36 : decode M_Van_pair.2.1 36 = .ok (.iload_n 1, 1) := by decide +kernel
theorem d_Van_pair_37 : decode M_Van_pair.2.1 37 = .ok (.iaload, 1) := by decide +kernel
theorem d_Van_pair_38 : decode M_Van_pair.2.1 38 = .ok (.iconst 1, 1) := by decide +kernel
theorem d_Van_pair_39 : decode M_Van_pair.2.1 39 = .ok (.if_icmp .eq 10, 3) := by decide +kernel
theorem d_Van_pair_42 : decode M_Van_pair.2.1 42 = .ok (.aload_n 0, 1) := by decide +kernel
theorem d_Van_pair_43 : decode M_Van_pair.2.1 43 = .ok (.bipush (-5), 2) := by decide +kernel
theorem d_Van_pair_45 : decode M_Van_pair.2.1 45 = .ok (.invokevirtual 74, 3) := by decide +kernel
theorem d_Van_pair_48 : decode M_Van_pair.2.1 48 = .ok (.ireturn, 1) := by decide +kernel
theorem d_Van_pair_49 : decode M_Van_pair.2.1 49 = .ok (.aload_n 0, 1) := by decide +kernel
theorem d_Van_pair_50 : decode M_Van_pair.2.1 50 = .ok (.getfield 37, 3) := by decide +kernel
theorem d_Van_pair_53 : decode M_Van_pair.2.1 53 = .ok (.getfield 122, 3) := by decide +kernel
theorem d_Van_pair_56 : decode M_Van_pair.2.1 56 = .ok (.iload_n 1, 1) := by decide +kernel
theorem d_Van_pair_57 : decode M_Van_pair.2.1 57 = .ok (.iaload, 1) := by decide +kernel
theorem d_Van_pair_58 : decode M_Van_pair.2.1 58 = .ok (.istore 5, 2) := by decide +kernel
theorem d_Van_pair_60 : decode M_Van_pair.2.1 60 = .ok (.iload 5, 2) := by decide +kernel
theorem d_Van_pair_62 : decode M_Van_pair.2.1 62 = .ok (.iconst (-1), 1) := by decide +kernel
theorem d_Van_pair_63 : decode M_Van_pair.2.1 63 = .ok (.if_icmp .ne 10, 3) := by decide +kernel
theorem d_Van_pair_66 : decode M_Van_pair.2.1 66 = .ok (.aload_n 0, 1) := by decide +kernel
theorem d_Van_pair_67 : decode M_Van_pair.2.1 67 = .ok (.bipush (-2), 2) := by decide +kernel
theorem d_Van_pair_69 : decode M_Van_pair.2.1 69 = .ok (.invokevirtual 74, 3) := by decide +kernel
theorem d_Van_pair_72 : decode M_Van_pair.2.1 72 = .ok (.ireturn, 1) := by decide +kernel
theorem d_Van_pair_73 : decode M_Van_pair.2.1 73 = .ok (.aload_n 0, 1) := by decide +kernel
theorem d_Van_pair_74 : decode M_Van_pair.2.1 74 = .ok (.iload_n 2, 1) := by decide +kernel
theorem d_Van_pair_75 : decode M_Van_pair.2.1 75 = .ok (.iload_n 3, 1) := by decide +kernel
theorem d_Van_pair_76 : decode M_Van_pair.2.1 76 = .ok (.invokevirtual 207, 3) := by decide +kernel
theorem d_Van_pair_79 : decode M_Van_pair.2.1 79 = .ok (.ifCond .eq 24, 3) := by decide +kernel
theorem d_Van_pair_82 : decode M_Van_pair.2.1 82 = .ok (.iload 4, 2) := by decide +kernel
theorem d_Van_pair_84 : decode M_Van_pair.2.1 84 = .ok (.ifCond .lt 19, 3) := by decide +kernel
theorem d_Van_pair_87 : decode M_Van_pair.2.1 87 = .ok (.iload 4, 2) := by decide +kernel
theorem d_Van_pair_89 : decode M_Van_pair.2.1 89 = .ok (.aload_n 0, 1) := by decide +kernel
theorem d_Van_pair_90 : decode M_Van_pair.2.1 90 = .ok (.getfield 46, 3) := by decide +kernel
theorem d_Van_pair_93 : decode M_Van_pair.2.1 93 = .ok (.getfield 178, 3) := by decide +kernel
theorem d_Van_pair_96 : decode M_Van_pair.2.1 96 = .ok (.iload_n 2, 1) := by decide +kernel
theorem d_Van_pair_97 : decode M_Van_pair.2.1 97 = .ok (.iaload, 1) := by decide +kernel
theorem d_Van_pair_98 : decode M_Van_pair.2.1 98 = .ok (.iconst 1, 1) := by decide +kernel
theorem d_Van_pair_99 : decode M_Van_pair.2.1 99 = .ok (.iadd, 1) := by decide +kernel
theorem d_Van_pair_100 : decode M_Van_pair.2.1 100 = .ok (.if_icmp .le 10, 3) := by decide +kernel
theorem d_Van_pair_103 : decode M_Van_pair.2.1 103 = .ok (.aload_n 0, 1) := by decide +kernel
theorem d_Van_pair_104 : decode M_Van_pair.2.1 104 = .ok (.bipush (-3), 2) := by decide +kernel
theorem d_Van_pair_106 : decode M_Van_pair.2.1 106 = .ok (.invokevirtual 74, 3) := by decide +kernel
theorem d_Van_pair_109 : decode M_Van_pair.2.1 109 = .ok (.ireturn, 1) := by decide +kernel
theorem d_Van_pair_110 : decode M_Van_pair.2.1 110 = .ok (.aload_n 0, 1) := by decide +kernel
theorem d_Van_pair_111 : decode M_Van_pair.2.1 111 = .ok (.getfield 46, 3) := by decide +kernel
theorem d_Van_pair_114 : decode M_Van_pair.2.1 114 = .ok (.iload_n 1, 1) := by decide +kernel
theorem d_Van_pair_115 : decode M_Van_pair.2.1 115 = .ok (.invokevirtual 125, 3) := by decide +kernel
theorem d_Van_pair_118 : decode M_Van_pair.2.1 118 = .ok (.iconst (-1), 1) := by decide +kernel
theorem d_Van_pair_119 : decode M_Van_pair.2.1 119 = .ok (.if_icmp .eq 10, 3) := by decide +kernel
theorem d_Van_pair_122 : decode M_Van_pair.2.1 122 = .ok (.aload_n 0, 1) := by decide +kernel
theorem d_Van_pair_123 : decode M_Van_pair.2.1 123 = .ok (.bipush (-7), 2) := by decide +kernel
theorem d_Van_pair_125 : decode M_Van_pair.2.1 125 = .ok (.invokevirtual 74, 3) := by decide +kernel
theorem d_Van_pair_128 : decode M_Van_pair.2.1 128 = .ok (.ireturn, 1) := by decide +kernel
theorem d_Van_pair_129 : decode M_Van_pair.2.1 129 = .ok (.aload_n 0, 1) := by decide +kernel
theorem d_Van_pair_130 : decode M_Van_pair.2.1 130 = .ok (.getfield 20, 3) := by decide +kernel
theorem d_Van_pair_133 : decode M_Van_pair.2.1 133 = .ok (.aload_n 0, 1) := by decide +kernel
theorem d_Van_pair_134 : decode M_Van_pair.2.1 134 = .ok (.getfield 46, 3) := by decide +kernel
theorem d_Van_pair_137 : decode M_Van_pair.2.1 137 = .ok (.invokevirtual 210, 3) := by decide +kernel
theorem d_Van_pair_140 : decode M_Van_pair.2.1 140 = .ok (.aload_n 0, 1) := by decide +kernel
theorem d_Van_pair_141 : decode M_Van_pair.2.1 141 = .ok (.getfield 20, 3) := by decide +kernel
theorem d_Van_pair_144 : decode M_Van_pair.2.1 144 = .ok (.iload_n 2, 1) := by decide +kernel
theorem d_Van_pair_145 : decode M_Van_pair.2.1 145 = .ok (.iload_n 3, 1) := by decide +kernel
theorem d_Van_pair_146 : decode M_Van_pair.2.1 146 = .ok (.iload_n 1, 1) := by decide +kernel
theorem d_Van_pair_147 : decode M_Van_pair.2.1 147 = .ok (.invokevirtual 214, 3) := by decide +kernel
theorem d_Van_pair_150 : decode M_Van_pair.2.1 150 = .ok (.aload_n 0, 1) := by decide +kernel
theorem d_Van_pair_151 : decode M_Van_pair.2.1 151 = .ok (.getfield 20, 3) := by decide +kernel
theorem d_Van_pair_154 : decode M_Van_pair.2.1 154 = .ok (.iload_n 2, 1) := by decide +kernel
theorem d_Van_pair_155 : decode M_Van_pair.2.1 155 = .ok (.iload 4, 2) := by decide +kernel
theorem d_Van_pair_157 : decode M_Van_pair.2.1 157 = .ok (.iload 5, 2) := by decide +kernel
theorem d_Van_pair_159 : decode M_Van_pair.2.1 159 = .ok (.invokevirtual 214, 3) := by decide +kernel
theorem d_Van_pair_162 : decode M_Van_pair.2.1 162 = .ok (.aload_n 0, 1) := by decide +kernel
theorem d_Van_pair_163 : decode M_Van_pair.2.1 163 = .ok (.invokevirtual 220, 3) := by decide +kernel
theorem d_Van_pair_166 : decode M_Van_pair.2.1 166 = .ok (.ireturn, 1) := by decide +kernel
theorem d_Van_take_0 : decode M_Van_take.2.1 0 = .ok (.aload_n 0, 1) := by decide +kernel
theorem d_Van_take_1 : decode M_Van_take.2.1 1 = .ok (.getfield 37, 3) := by decide +kernel
theorem d_Van_take_4 : decode M_Van_take.2.1 4 = .ok (.iload_n 1, 1) := by decide +kernel
theorem d_Van_take_5 : decode M_Van_take.2.1 5 = .ok (.invokevirtual 114, 3) := by decide +kernel
theorem d_Van_take_8 : decode M_Van_take.2.1 8 = .ok (.ifCond .ne 10, 3) := by decide +kernel
theorem d_Van_take_11 : decode M_Van_take.2.1 11 = .ok (.aload_n 0, 1) := by decide +kernel
theorem d_Van_take_12 : decode M_Van_take.2.1 12 = .ok (.bipush (-3), 2) := by decide +kernel
theorem d_Van_take_14 : decode M_Van_take.2.1 14 = .ok (.invokevirtual 74, 3) := by decide +kernel
theorem d_Van_take_17 : decode M_Van_take.2.1 17 = .ok (.ireturn, 1) := by decide +kernel
theorem d_Van_take_18 : decode M_Van_take.2.1 18 = .ok (.aload_n 0, 1) := by decide +kernel
theorem d_Van_take_19 : decode M_Van_take.2.1 19 = .ok (.getfield 46, 3) := by decide +kernel
theorem d_Van_take_22 : decode M_Van_take.2.1 22 = .ok (.iload_n 1, 1) := by decide +kernel
theorem d_Van_take_23 : decode M_Van_take.2.1 23 = .ok (.invokevirtual 125, 3) := by decide +kernel
theorem d_Van_take_26 : decode M_Van_take.2.1 26 = .ok (.iconst (-1), 1) := by decide +kernel
theorem d_Van_take_27 : decode M_Van_take.2.1 27 = .ok (.if_icmp .ne 10, 3) := by decide +kernel
theorem d_Van_take_30 : decode M_Van_take.2.1 30 = .ok (.aload_n 0, 1) := by decide +kernel
theorem d_Van_take_31 : decode M_Van_take.2.1 31 = .ok (.bipush (-7), 2) := by decide +kernel
theorem d_Van_take_33 : decode M_Van_take.2.1 33 = .ok (.invokevirtual 74, 3) := by decide +kernel
theorem d_Van_take_36 : decode M_Van_take.2.1 36 = .ok (.ireturn, 1) := by decide +kernel
theorem d_Van_take_37 : decode M_Van_take.2.1 37 = .ok (.aload_n 0, 1) := by decide +kernel
theorem d_Van_take_38 : decode M_Van_take.2.1 38 = .ok (.getfield 20, 3) := by decide +kernel
theorem d_Van_take_41 : decode M_Van_take.2.1 41 = .ok (.aload_n 0, 1) := by decide +kernel
theorem d_Van_take_42 : decode M_Van_take.2.1 42 = .ok (.getfield 46, 3) := by decide +kernel
theorem d_Van_take_45 : decode M_Van_take.2.1 45 = .ok (.invokevirtual 210, 3) := by decide +kernel
theorem d_Van_take_48 : decode M_Van_take.2.1 48 = .ok (.aload_n 0, 1) := by decide +kernel
theorem d_Van_take_49 : decode M_Van_take.2.1 49 = .ok (.getfield 20, 3) := by decide +kernel
theorem d_Van_take_52 : decode M_Van_take.2.1 52 = .ok (.iload_n 1, 1) := by decide +kernel
theorem d_Van_take_53 : decode M_Van_take.2.1 53 = .ok (.invokevirtual 224, 3) := by decide +kernel
theorem d_Van_take_56 : decode M_Van_take.2.1 56 = .ok (.aload_n 0, 1) := by decide +kernel
theorem d_Van_take_57 : decode M_Van_take.2.1 57 = .ok (.getfield 37, 3) := by decide +kernel
theorem d_Van_take_60 : decode M_Van_take.2.1 60 = .ok (.getfield 122, 3) := by decide +kernel
theorem d_Van_take_63 : decode M_Van_take.2.1 63 = .ok (.iload_n 1, 1) := by decide +kernel
theorem d_Van_take_64 : decode M_Van_take.2.1 64 = .ok (.iaload, 1) := by decide +kernel
theorem d_Van_take_65 : decode M_Van_take.2.1 65 = .ok (.iconst (-1), 1) := by decide +kernel
theorem d_Van_take_66 : decode M_Van_take.2.1 66 = .ok (.if_icmp .eq 19, 3) := by decide +kernel
theorem d_Van_take_69 : decode M_Van_take.2.1 69 = .ok (.aload_n 0, 1) := by decide +kernel
theorem d_Van_take_70 : decode M_Van_take.2.1 70 = .ok (.getfield 20, 3) := by decide +kernel
theorem d_Van_take_73 : decode M_Van_take.2.1 73 = .ok (.aload_n 0, 1) := by decide +kernel
theorem d_Van_take_74 : decode M_Van_take.2.1 74 = .ok (.getfield 37, 3) := by decide +kernel
theorem d_Van_take_77 : decode M_Van_take.2.1 77 = .ok (.getfield 122, 3) := by decide +kernel
theorem d_Van_take_80 : decode M_Van_take.2.1 80 = .ok (.iload_n 1, 1) := by decide +kernel
theorem d_Van_take_81 : decode M_Van_take.2.1 81 = .ok (.iaload, 1) := by decide +kernel
theorem d_Van_take_82 : decode M_Van_take.2.1 82 = .ok (.invokevirtual 224, 3) := by decide +kernel
theorem d_Van_take_85 : decode M_Van_take.2.1 85 = .ok (.aload_n 0, 1) := by decide +kernel
theorem d_Van_take_86 : decode M_Van_take.2.1 86 = .ok (.invokevirtual 220, 3) := by decide +kernel
theorem d_Van_take_89 : decode M_Van_take.2.1 89 = .ok (.ireturn, 1) := by decide +kernel
theorem d_Van_move_0 : decode M_Van_move.2.1 0 = .ok (.aload_n 0, 1) := by decide +kernel
theorem d_Van_move_1 : decode M_Van_move.2.1 1 = .ok (.getfield 37, 3) := by decide +kernel
theorem d_Van_move_4 : decode M_Van_move.2.1 4 = .ok (.iload_n 1, 1) := by decide +kernel
theorem d_Van_move_5 : decode M_Van_move.2.1 5 = .ok (.invokevirtual 114, 3) := by decide +kernel
theorem d_Van_move_8 : decode M_Van_move.2.1 8 = .ok (.ifCond .eq 14, 3) := by decide +kernel
theorem d_Van_move_11 : decode M_Van_move.2.1 11 = .ok (.aload_n 0, 1) := by decide +kernel
theorem d_Van_move_12 : decode M_Van_move.2.1 12 = .ok (.getfield 42, 3) := by decide +kernel
theorem d_Van_move_15 : decode M_Van_move.2.1 15 = .ok (.iload_n 2, 1) := by decide +kernel
theorem d_Van_move_16 : decode M_Van_move.2.1 16 = .ok (.invokevirtual 163, 3) := by decide +kernel
theorem d_Van_move_19 : decode M_Van_move.2.1 19 = .ok (.ifCond .ne 10, 3) := by decide +kernel
theorem d_Van_move_22 : decode M_Van_move.2.1 22 = .ok (.aload_n 0, 1) := by decide +kernel
theorem d_Van_move_23 : decode M_Van_move.2.1 23 = .ok (.bipush (-3), 2) := by decide +kernel
theorem d_Van_move_25 : decode M_Van_move.2.1 25 = .ok (.invokevirtual 74, 3) := by decide +kernel
theorem d_Van_move_28 : decode M_Van_move.2.1 28 = .ok (.ireturn, 1) := by decide +kernel
theorem d_Van_move_29 : decode M_Van_move.2.1 29 = .ok (.aload_n 0, 1) := by decide +kernel
theorem d_Van_move_30 : decode M_Van_move.2.1 30 = .ok (.getfield 46, 3) := by decide +kernel
theorem d_Van_move_33 : decode M_Van_move.2.1 33 = .ok (.iload_n 1, 1) := by decide +kernel
theorem d_Van_move_34 : decode M_Van_move.2.1 34 = .ok (.invokevirtual 125, 3) := by decide +kernel
theorem d_Van_move_37 : decode M_Van_move.2.1 37 = .ok (.istore 4, 2) := by decide +kernel
theorem d_Van_move_39 : decode M_Van_move.2.1 39 = .ok (.iload 4, 2) := by decide +kernel
theorem d_Van_move_41 : decode M_Van_move.2.1 41 = .ok (.iconst (-1), 1) := by decide +kernel
theorem d_Van_move_42 : decode M_Van_move.2.1 42 = .ok (.if_icmp .ne 10, 3) := by decide +kernel
theorem d_Van_move_45 : decode M_Van_move.2.1 45 = .ok (.aload_n 0, 1) := by decide +kernel
theorem d_Van_move_46 : decode M_Van_move.2.1 46 = .ok (.bipush (-7), 2) := by decide +kernel
theorem d_Van_move_48 : decode M_Van_move.2.1 48 = .ok (.invokevirtual 74, 3) := by decide +kernel
theorem d_Van_move_51 : decode M_Van_move.2.1 51 = .ok (.ireturn, 1) := by decide +kernel
theorem d_Van_move_52 : decode M_Van_move.2.1 52 = .ok (.aload_n 0, 1) := by decide +kernel
theorem d_Van_move_53 : decode M_Van_move.2.1 53 = .ok (.getfield 46, 3) := by decide +kernel
theorem d_Van_move_56 : decode M_Van_move.2.1 56 = .ok (.getfield 178, 3) := by decide +kernel
theorem d_Van_move_59 : decode M_Van_move.2.1 59 = .ok (.iload_n 2, 1) := by decide +kernel
theorem d_Van_move_60 : decode M_Van_move.2.1 60 = .ok (.iaload, 1) := by decide +kernel
theorem d_Van_move_61 : decode M_Van_move.2.1 61 = .ok (.iload 4, 2) := by decide +kernel
theorem d_Van_move_63 : decode M_Van_move.2.1 63 = .ok (.iload_n 2, 1) := by decide +kernel
theorem d_Van_move_64 : decode M_Van_move.2.1 64 = .ok (.if_icmp .ne 7, 3) := by decide +kernel
theorem d_Van_move_67 : decode M_Van_move.2.1 67 = .ok (.iconst 1, 1) := by decide +kernel
theorem d_Van_move_68 : decode M_Van_move.2.1 68 = .ok (.goto 4, 3) := by decide +kernel
theorem d_Van_move_71 : decode M_Van_move.2.1 71 = .ok (.iconst 0, 1) := by decide +kernel
theorem d_Van_move_72 : decode M_Van_move.2.1 72 = .ok (.isub, 1) := by decide +kernel
theorem d_Van_move_73 : decode M_Van_move.2.1 73 = .ok (.istore 5, 2) := by decide +kernel
theorem d_Van_move_75 : decode M_Van_move.2.1 75 = .ok (.iload_n 3, 1) := by decide +kernel
theorem d_Van_move_76 : decode M_Van_move.2.1 76 = .ok (.ifCond .lt 9, 3) := by decide +kernel
theorem d_Van_move_79 : decode M_Van_move.2.1 79 = .ok (.iload_n 3, 1) := by decide +kernel
theorem d_Van_move_80 : decode M_Van_move.2.1 80 = .ok (.iload 5, 2) := by decide +kernel
theorem d_Van_move_82 : decode M_Van_move.2.1 82 = .ok (.if_icmp .le 10, 3) := by decide +kernel
theorem d_Van_move_85 : decode M_Van_move.2.1 85 = .ok (.aload_n 0, 1) := by decide +kernel
theorem d_Van_move_86 : decode M_Van_move.2.1 86 = .ok (.bipush (-3), 2) := by decide +kernel
theorem d_Van_move_88 : decode M_Van_move.2.1 88 = .ok (.invokevirtual 74, 3) := by decide +kernel
theorem d_Van_move_91 : decode M_Van_move.2.1 91 = .ok (.ireturn, 1) := by decide +kernel
theorem d_Van_move_92 : decode M_Van_move.2.1 92 = .ok (.aload_n 0, 1) := by decide +kernel
theorem d_Van_move_93 : decode M_Van_move.2.1 93 = .ok (.getfield 20, 3) := by decide +kernel
theorem d_Van_move_96 : decode M_Van_move.2.1 96 = .ok (.aload_n 0, 1) := by decide +kernel
theorem d_Van_move_97 : decode M_Van_move.2.1 97 = .ok (.getfield 46, 3) := by decide +kernel
theorem d_Van_move_100 : decode M_Van_move.2.1 100 = .ok (.invokevirtual 210, 3) := by decide +kernel
theorem d_Van_move_103 : decode M_Van_move.2.1 103 = .ok (.aload_n 0, 1) := by decide +kernel
theorem d_Van_move_104 : decode M_Van_move.2.1 104 = .ok (.getfield 20, 3) := by decide +kernel
theorem d_Van_move_107 : decode M_Van_move.2.1 107 = .ok (.iload_n 1, 1) := by decide +kernel
theorem d_Van_move_108 : decode M_Van_move.2.1 108 = .ok (.invokevirtual 224, 3) := by decide +kernel
theorem d_Van_move_111 : decode M_Van_move.2.1 111 = .ok (.aload_n 0, 1) := by decide +kernel
theorem d_Van_move_112 : decode M_Van_move.2.1 112 = .ok (.getfield 20, 3) := by decide +kernel
theorem d_Van_move_115 : decode M_Van_move.2.1 115 = .ok (.iload_n 2, 1) := by decide +kernel
theorem d_Van_move_116 : decode M_Van_move.2.1 116 = .ok (.iload_n 3, 1) := by decide +kernel
theorem d_Van_move_117 : decode M_Van_move.2.1 117 = .ok (.iload_n 1, 1) := by decide +kernel
theorem d_Van_move_118 : decode M_Van_move.2.1 118 = .ok (.invokevirtual 214, 3) := by decide +kernel
theorem d_Van_move_121 : decode M_Van_move.2.1 121 = .ok (.aload_n 0, 1) := by decide +kernel
theorem d_Van_move_122 : decode M_Van_move.2.1 122 = .ok (.invokevirtual 220, 3) := by decide +kernel
theorem d_Van_move_125 : decode M_Van_move.2.1 125 = .ok (.ireturn, 1) := by decide +kernel
theorem d_Van_cross_0 : decode M_Van_cross.2.1 0 = .ok (.aload_n 0, 1) := by decide +kernel
theorem d_Van_cross_1 : decode M_Van_cross.2.1 1 = .ok (.iload_n 1, 1) := by decide +kernel
theorem d_Van_cross_2 : decode M_Van_cross.2.1 2 = .ok (.iload_n 2, 1) := by decide +kernel
theorem d_Van_cross_3 : decode M_Van_cross.2.1 3 = .ok (.invokevirtual 207, 3) := by decide +kernel
theorem d_Van_cross_6 : decode M_Van_cross.2.1 6 = .ok (.ifCond .eq 13, 3) := by decide +kernel
theorem d_Van_cross_9 : decode M_Van_cross.2.1 9 = .ok (.aload_n 0, 1) := by decide +kernel
theorem d_Van_cross_10 : decode M_Van_cross.2.1 10 = .ok (.iload_n 3, 1) := by decide +kernel
theorem d_Van_cross_11 : decode M_Van_cross.2.1 11 = .ok (.iload 4, 2) := by decide +kernel
theorem d_Van_cross_13 : decode M_Van_cross.2.1 13 = .ok (.invokevirtual 207, 3) := by decide +kernel
theorem d_Van_cross_16 : decode M_Van_cross.2.1 16 = .ok (.ifCond .ne 10, 3) := by decide +kernel
theorem d_Van_cross_19 : decode M_Van_cross.2.1 19 = .ok (.aload_n 0, 1) := by decide +kernel
theorem d_Van_cross_20 : decode M_Van_cross.2.1 20 = .ok (.bipush (-3), 2) := by decide +kernel
theorem d_Van_cross_22 : decode M_Van_cross.2.1 22 = .ok (.invokevirtual 74, 3) := by decide +kernel
theorem d_Van_cross_25 : decode M_Van_cross.2.1 25 = .ok (.ireturn, 1) := by decide +kernel
theorem d_Van_cross_26 : decode M_Van_cross.2.1 26 = .ok (.iload_n 1, 1) := by decide +kernel
theorem d_Van_cross_27 : decode M_Van_cross.2.1 27 = .ok (.iload_n 3, 1) := by decide +kernel
theorem d_Van_cross_28 : decode M_Van_cross.2.1 28 = .ok (.if_icmp .ne 10, 3) := by decide +kernel
theorem d_Van_cross_31 : decode M_Van_cross.2.1 31 = .ok (.aload_n 0, 1) := by decide +kernel
theorem d_Van_cross_32 : decode M_Van_cross.2.1 32 = .ok (.bipush (-7), 2) := by decide +kernel
theorem d_Van_cross_34 : decode M_Van_cross.2.1 34 = .ok (.invokevirtual 74, 3) := by decide +kernel
theorem d_Van_cross_37 : decode M_Van_cross.2.1 37 = .ok (.ireturn, 1) := by decide +kernel
theorem d_Van_cross_38 : decode M_Van_cross.2.1 38 = .ok (.aload_n 0, 1) := by decide +kernel
theorem d_Van_cross_39 : decode M_Van_cross.2.1 39 = .ok (.getfield 20, 3) := by decide +kernel
theorem d_Van_cross_42 : decode M_Van_cross.2.1 42 = .ok (.aload_n 0, 1) := by decide +kernel
theorem d_Van_cross_43 : decode M_Van_cross.2.1 43 = .ok (.getfield 46, 3) := by decide +kernel
theorem d_Van_cross_46 : decode M_Van_cross.2.1 46 = .ok (.invokevirtual 210, 3) := by decide +kernel
theorem d_Van_cross_49 : decode M_Van_cross.2.1 49 = .ok (.aload_n 0, 1) := by decide +kernel
theorem d_Van_cross_50 : decode M_Van_cross.2.1 50 = .ok (.getfield 20, 3) := by decide +kernel
theorem d_Van_cross_53 : decode M_Van_cross.2.1 53 = .ok (.iload_n 1, 1) := by decide +kernel
theorem d_Van_cross_54 : decode M_Van_cross.2.1 54 = .ok (.iload_n 2, 1) := by decide +kernel
theorem d_Van_cross_55 : decode M_Van_cross.2.1 55 = .ok (.aload_n 0, 1) := by decide +kernel
theorem d_Van_cross_56 : decode M_Van_cross.2.1 56 = .ok (.getfield 46, 3) := by decide +kernel
theorem d_Van_cross_59 : decode M_Van_cross.2.1 59 = .ok (.iload_n 3, 1) := by decide +kernel
theorem d_Van_cross_60 : decode M_Van_cross.2.1 60 = .ok (.iload 4, 2) := by decide +kernel
theorem d_Van_cross_62 : decode M_Van_cross.2.1 62 = .ok (.invokevirtual 228, 3) := by decide +kernel
theorem d_Van_cross_65 : decode M_Van_cross.2.1 65 = .ok (.aload_n 0, 1) := by decide +kernel
theorem d_Van_cross_66 : decode M_Van_cross.2.1 66 = .ok (.getfield 20, 3) := by decide +kernel
theorem d_Van_cross_69 : decode M_Van_cross.2.1 69 = .ok (.iload_n 3, 1) := by decide +kernel
theorem d_Van_cross_70 : decode M_Van_cross.2.1 70 = .ok (.iload 4, 2) := by decide +kernel
theorem d_Van_cross_72 : decode M_Van_cross.2.1 72 = .ok (.aload_n 0, 1) := by decide +kernel
theorem d_Van_cross_73 : decode M_Van_cross.2.1 73 = .ok (.getfield 46, 3) := by decide +kernel
theorem d_Van_cross_76 : decode M_Van_cross.2.1 76 = .ok (.iload_n 1, 1) := by decide +kernel
theorem d_Van_cross_77 : decode M_Van_cross.2.1 77 = .ok (.iload_n 2, 1) := by decide +kernel
theorem d_Van_cross_78 : decode M_Van_cross.2.1 78 = .ok (.invokevirtual 228, 3) := by decide +kernel
theorem d_Van_cross_81 : decode M_Van_cross.2.1 81 = .ok (.aload_n 0, 1) := by decide +kernel
theorem d_Van_cross_82 : decode M_Van_cross.2.1 82 = .ok (.invokevirtual 220, 3) := by decide +kernel
theorem d_Van_cross_85 : decode M_Van_cross.2.1 85 = .ok (.ireturn, 1) := by decide +kernel
theorem d_Van_turn_0 : decode M_Van_turn.2.1 0 = .ok (.aload_n 0, 1) := by decide +kernel
theorem d_Van_turn_1 : decode M_Van_turn.2.1 1 = .ok (.getfield 42, 3) := by decide +kernel
theorem d_Van_turn_4 : decode M_Van_turn.2.1 4 = .ok (.iload_n 1, 1) := by decide +kernel
theorem d_Van_turn_5 : decode M_Van_turn.2.1 5 = .ok (.invokevirtual 163, 3) := by decide +kernel
theorem d_Van_turn_8 : decode M_Van_turn.2.1 8 = .ok (.ifCond .eq 21, 3) := by decide +kernel
theorem d_Van_turn_11 : decode M_Van_turn.2.1 11 = .ok (.aload_n 0, 1) := by decide +kernel
theorem d_Van_turn_12 : decode M_Van_turn.2.1 12 = .ok (.iload_n 1, 1) := by decide +kernel
theorem d_Van_turn_13 : decode M_Van_turn.2.1 13 = .ok (.iload_n 2, 1) := by decide +kernel
theorem d_Van_turn_14 : decode M_Van_turn.2.1 14 = .ok (.invokevirtual 232, 3) := by decide +kernel
theorem d_Van_turn_17 : decode M_Van_turn.2.1 17 = .ok (.ifCond .eq 12, 3) := by decide +kernel
theorem d_Van_turn_20 : decode M_Van_turn.2.1 20 = .ok (.aload_n 0, 1) := by decide +kernel
theorem d_Van_turn_21 : decode M_Van_turn.2.1 21 = .ok (.iload_n 1, 1) := by decide +kernel
theorem d_Van_turn_22 : decode M_Van_turn.2.1 22 = .ok (.iload_n 3, 1) := by decide +kernel
theorem d_Van_turn_23 : decode M_Van_turn.2.1 23 = .ok (.invokevirtual 232, 3) := by decide +kernel
theorem d_Van_turn_26 : decode M_Van_turn.2.1 26 = .ok (.ifCond .ne 10, 3) := by decide +kernel
theorem d_Van_turn_29 : decode M_Van_turn.2.1 29 = .ok (.aload_n 0, 1) := by decide +kernel
theorem d_Van_turn_30 : decode M_Van_turn.2.1 30 = .ok (.bipush (-3), 2) := by decide +kernel
theorem d_Van_turn_32 : decode M_Van_turn.2.1 32 = .ok (.invokevirtual 74, 3) := by decide +kernel
theorem d_Van_turn_35 : decode M_Van_turn.2.1 35 = .ok (.ireturn, 1) := by decide +kernel
theorem d_Van_turn_36 : decode M_Van_turn.2.1 36 = .ok (.iload_n 2, 1) := by decide +kernel
theorem d_Van_turn_37 : decode M_Van_turn.2.1 37 = .ok (.iload_n 3, 1) := by decide +kernel
theorem d_Van_turn_38 : decode M_Van_turn.2.1 38 = .ok (.if_icmp .lt 10, 3) := by decide +kernel
theorem d_Van_turn_41 : decode M_Van_turn.2.1 41 = .ok (.aload_n 0, 1) := by decide +kernel
theorem d_Van_turn_42 : decode M_Van_turn.2.1 42 = .ok (.bipush (-7), 2) := by decide +kernel
theorem d_Van_turn_44 : decode M_Van_turn.2.1 44 = .ok (.invokevirtual 74, 3) := by decide +kernel
theorem d_Van_turn_47 : decode M_Van_turn.2.1 47 = .ok (.ireturn, 1) := by decide +kernel
theorem d_Van_turn_48 : decode M_Van_turn.2.1 48 = .ok (.aload_n 0, 1) := by decide +kernel
theorem d_Van_turn_49 : decode M_Van_turn.2.1 49 = .ok (.getfield 20, 3) := by decide +kernel
theorem d_Van_turn_52 : decode M_Van_turn.2.1 52 = .ok (.aload_n 0, 1) := by decide +kernel
theorem d_Van_turn_53 : decode M_Van_turn.2.1 53 = .ok (.getfield 46, 3) := by decide +kernel
theorem d_Van_turn_56 : decode M_Van_turn.2.1 56 = .ok (.invokevirtual 210, 3) := by decide +kernel
theorem d_Van_turn_59 : decode M_Van_turn.2.1 59 = .ok (.aload_n 0, 1) := by decide +kernel
theorem d_Van_turn_60 : decode M_Van_turn.2.1 60 = .ok (.getfield 20, 3) := by decide +kernel
theorem d_Van_turn_63 : decode M_Van_turn.2.1 63 = .ok (.iload_n 1, 1) := by decide +kernel
theorem d_Van_turn_64 : decode M_Van_turn.2.1 64 = .ok (.iload_n 2, 1) := by decide +kernel
theorem d_Van_turn_65 : decode M_Van_turn.2.1 65 = .ok (.iload_n 3, 1) := by decide +kernel
theorem d_Van_turn_66 : decode M_Van_turn.2.1 66 = .ok (.invokevirtual 235, 3) := by decide +kernel
theorem d_Van_turn_69 : decode M_Van_turn.2.1 69 = .ok (.aload_n 0, 1) := by decide +kernel
theorem d_Van_turn_70 : decode M_Van_turn.2.1 70 = .ok (.invokevirtual 220, 3) := by decide +kernel
theorem d_Van_turn_73 : decode M_Van_turn.2.1 73 = .ok (.ireturn, 1) := by decide +kernel
theorem d_Van_isTaken_0 : decode M_Van_isTaken.2.1 0 = .ok (.iload_n 2, 1) := by decide +kernel
theorem d_Van_isTaken_1 : decode M_Van_isTaken.2.1 1 = .ok (.ifCond .lt 20, 3) := by decide +kernel
theorem d_Van_isTaken_4 : decode M_Van_isTaken.2.1 4 = .ok (.iload_n 2, 1) := by decide +kernel
theorem d_Van_isTaken_5 : decode M_Van_isTaken.2.1 5 = .ok (.aload_n 0, 1) := by decide +kernel
theorem d_Van_isTaken_6 : decode M_Van_isTaken.2.1 6 = .ok (.getfield 46, 3) := by decide +kernel
theorem d_Van_isTaken_9 : decode M_Van_isTaken.2.1 9 = .ok (.getfield 178, 3) := by decide +kernel
theorem d_Van_isTaken_12 : decode M_Van_isTaken.2.1 12 = .ok (.iload_n 1, 1) := by decide +kernel
theorem d_Van_isTaken_13 : decode M_Van_isTaken.2.1 13 = .ok (.iaload, 1) := by decide +kernel
theorem d_Van_isTaken_14 : decode M_Van_isTaken.2.1 14 = .ok (.if_icmp .ge 7, 3) := by decide +kernel
theorem d_Van_isTaken_17 : decode M_Van_isTaken.2.1 17 = .ok (.iconst 1, 1) := by decide +kernel
theorem d_Van_isTaken_18 : decode M_Van_isTaken.2.1 18 = .ok (.goto 4, 3) := by decide +kernel
theorem d_Van_isTaken_21 : decode M_Van_isTaken.2.1 21 = .ok (.iconst 0, 1) := by decide +kernel
theorem d_Van_isTaken_22 : decode M_Van_isTaken.2.1 22 = .ok (.ireturn, 1) := by decide +kernel
theorem d_Van_build_0 : decode M_Van_build.2.1 0 = .ok (.aload_n 0, 1) := by decide +kernel
theorem d_Van_build_1 : decode M_Van_build.2.1 1 = .ok (.getfield 20, 3) := by decide +kernel
theorem d_Van_build_4 : decode M_Van_build.2.1 4 = .ok (.aload_n 0, 1) := by decide +kernel
theorem d_Van_build_5 : decode M_Van_build.2.1 5 = .ok (.getfield 46, 3) := by decide +kernel
theorem d_Van_build_8 : decode M_Van_build.2.1 8 = .ok (.invokevirtual 210, 3) := by decide +kernel
theorem d_Van_build_11 : decode M_Van_build.2.1 11 = .ok (.aload_n 0, 1) := by decide +kernel
theorem d_Van_build_12 : decode M_Van_build.2.1 12 = .ok (.getfield 20, 3) := by decide +kernel
theorem d_Van_build_15 : decode M_Van_build.2.1 15 = .ok (.invokevirtual 238, 3) := by decide +kernel
theorem d_Van_build_18 : decode M_Van_build.2.1 18 = .ok (.istore_n 1, 1) := by decide +kernel
theorem d_Van_build_19 : decode M_Van_build.2.1 19 = .ok (.iconst 0, 1) := by decide +kernel
theorem d_Van_build_20 : decode M_Van_build.2.1 20 = .ok (.istore_n 2, 1) := by decide +kernel
theorem d_Van_build_21 : decode M_Van_build.2.1 21 = .ok (.iload_n 2, 1) := by decide +kernel
theorem d_Van_build_22 : decode M_Van_build.2.1 22 = .ok (.bipush 12, 2) := by decide +kernel
theorem d_Van_build_24 : decode M_Van_build.2.1 24 = .ok (.if_icmp .ge 29, 3) := by decide +kernel
theorem d_Van_build_27 : decode M_Van_build.2.1 27 = .ok (.aload_n 0, 1) := by decide +kernel
theorem d_Van_build_28 : decode M_Van_build.2.1 28 = .ok (.getfield 12, 3) := by decide +kernel
theorem d_Van_build_31 : decode M_Van_build.2.1 31 = .ok (.invokevirtual 241, 3) := by decide +kernel
theorem d_Van_build_34 : decode M_Van_build.2.1 34 = .ok (.ifCond .ne 6, 3) := by decide +kernel
theorem d_Van_build_37 : decode M_Van_build.2.1 37 = .ok (.goto 16, 3) := by decide +kernel
theorem d_Van_build_40 : decode M_Van_build.2.1 40 = .ok (.aload_n 0, 1) := by decide +kernel
theorem d_Van_build_41 : decode M_Van_build.2.1 41 = .ok (.getfield 12, 3) := by decide +kernel
theorem d_Van_build_44 : decode M_Van_build.2.1 44 = .ok (.invokevirtual 245, 3) := by decide +kernel
theorem d_Van_build_47 : decode M_Van_build.2.1 47 = .ok (.iinc 2 1, 3) := by decide +kernel
theorem d_Van_build_50 : decode M_Van_build.2.1 50 = .ok (.goto (-29), 3) := by decide +kernel
theorem d_Van_build_53 : decode M_Van_build.2.1 53 = .ok (.aload_n 0, 1) := by decide +kernel
theorem d_Van_build_54 : decode M_Van_build.2.1 54 = .ok (.invokevirtual 248, 3) := by decide +kernel
theorem d_Van_build_57 : decode M_Van_build.2.1 57 = .ok (.aload_n 0, 1) := by decide +kernel
theorem d_Van_build_58 : decode M_Van_build.2.1 58 = .ok (.getfield 20, 3) := by decide +kernel
theorem d_Van_build_61 : decode M_Van_build.2.1 61 = .ok (.invokevirtual 238, 3) := by decide +kernel
theorem d_Van_build_64 : decode M_Van_build.2.1 64 = .ok (.iload_n 1, 1) := by decide +kernel
theorem d_Van_build_65 : decode M_Van_build.2.1 65 = .ok (.isub, 1) := by decide +kernel
theorem d_Van_build_66 : decode M_Van_build.2.1 66 = .ok (.ireturn, 1) := by decide +kernel
theorem d_Van_better_0 : decode M_Van_better.2.1 0 = .ok (.iload_n 1, 1) := by decide +kernel
theorem d_Van_better_1 : decode M_Van_better.2.1 1 = .ok (.ifCond .ge 10, 3) := by decide +kernel
theorem d_Van_better_4 : decode M_Van_better.2.1 4 = .ok (.aload_n 0, 1) := by decide +kernel
theorem d_Van_better_5 : decode M_Van_better.2.1 5 = .ok (.bipush (-4), 2) := by decide +kernel
theorem d_Van_better_7 : decode M_Van_better.2.1 7 = .ok (.invokevirtual 74, 3) := by decide +kernel
theorem d_Van_better_10 : decode M_Van_better.2.1 10 = .ok (.ireturn, 1) := by decide +kernel
theorem d_Van_better_11 : decode M_Van_better.2.1 11 = .ok (.iload_n 1, 1) := by decide +kernel
theorem d_Van_better_12 : decode M_Van_better.2.1 12 = .ok (.bipush 100, 2) := by decide +kernel
theorem d_Van_better_14 : decode M_Van_better.2.1 14 = .ok (.if_icmp .le 10, 3) := by decide +kernel
theorem d_Van_better_17 : decode M_Van_better.2.1 17 = .ok (.aload_n 0, 1) := by decide +kernel
theorem d_Van_better_18 : decode M_Van_better.2.1 18 = .ok (.bipush (-7), 2) := by decide +kernel
theorem d_Van_better_20 : decode M_Van_better.2.1 20 = .ok (.invokevirtual 74, 3) := by decide +kernel
theorem d_Van_better_23 : decode M_Van_better.2.1 23 = .ok (.ireturn, 1) := by decide +kernel
theorem d_Van_better_24 : decode M_Van_better.2.1 24 = .ok (.aload_n 0, 1) := by decide +kernel
theorem d_Van_better_25 : decode M_Van_better.2.1 25 = .ok (.getfield 20, 3) := by decide +kernel
theorem d_Van_better_28 : decode M_Van_better.2.1 28 = .ok (.aload_n 0, 1) := by decide +kernel
theorem d_Van_better_29 : decode M_Van_better.2.1 29 = .ok (.getfield 46, 3) := by decide +kernel
theorem d_Van_better_32 : decode M_Van_better.2.1 32 = .ok (.invokevirtual 210, 3) := by decide +kernel
theorem d_Van_better_35 : decode M_Van_better.2.1 35 = .ok (.iconst 0, 1) := by decide +kernel
theorem d_Van_better_36 : decode M_Van_better.2.1 36 = .ok (.istore_n 2, 1) := by decide +kernel
theorem d_Van_better_37 : decode M_Van_better.2.1 37 = .ok (.iload_n 2, 1) := by decide +kernel
theorem d_Van_better_38 : decode M_Van_better.2.1 38 = .ok (.iload_n 1, 1) := by decide +kernel
theorem d_Van_better_39 : decode M_Van_better.2.1 39 = .ok (.if_icmp .ge 19, 3) := by decide +kernel
theorem d_Van_better_42 : decode M_Van_better.2.1 42 = .ok (.aload_n 0, 1) := by decide +kernel
theorem d_Van_better_43 : decode M_Van_better.2.1 43 = .ok (.getfield 12, 3) := by decide +kernel
theorem d_Van_better_46 : decode M_Van_better.2.1 46 = .ok (.invokevirtual 251, 3) := by decide +kernel
theorem d_Van_better_49 : decode M_Van_better.2.1 49 = .ok (.ifCond .eq 9, 3) := by decide +kernel
theorem d_Van_better_52 : decode M_Van_better.2.1 52 = .ok (.iinc 2 1, 3) := by decide +kernel
theorem d_Van_better_55 : decode M_Van_better.2.1 55 = .ok (.goto (-18), 3) := by decide +kernel
theorem d_Van_better_58 : decode M_Van_better.2.1 58 = .ok (.aload_n 0, 1) := by decide +kernel
theorem d_Van_better_59 : decode M_Van_better.2.1 59 = .ok (.invokevirtual 248, 3) := by decide +kernel
theorem d_Van_better_62 : decode M_Van_better.2.1 62 = .ok (.iload_n 2, 1) := by decide +kernel
theorem d_Van_better_63 : decode M_Van_better.2.1 63 = .ok (.ireturn, 1) := by decide +kernel
theorem d_Van_least_0 : decode M_Van_least.2.1 0 = .ok (.aload_n 0, 1) := by decide +kernel
theorem d_Van_least_1 : decode M_Van_least.2.1 1 = .ok (.getfield 37, 3) := by decide +kernel
theorem d_Van_least_4 : decode M_Van_least.2.1 4 = .ok (.getfield 134, 3) := by decide +kernel
theorem d_Van_least_7 : decode M_Van_least.2.1 7 = .ok (.iconst 5, 1) := by decide +kernel
theorem d_Van_least_8 : decode M_Van_least.2.1 8 = .ok (.if_icmp .gt 14, 3) := by decide +kernel
theorem d_Van_least_11 : decode M_Van_least.2.1 11 = .ok (.aload_n 0, 1) := by decide +kernel
theorem d_Van_least_12 : decode M_Van_least.2.1 12 = .ok (.getfield 42, 3) := by decide +kernel
theorem d_Van_least_15 : decode M_Van_least.2.1 15 = .ok (.getfield 154, 3) := by decide +kernel
theorem d_Van_least_18 : decode M_Van_least.2.1 18 = .ok (.iconst 2, 1) := by decide +kernel
theorem d_Van_least_19 : decode M_Van_least.2.1 19 = .ok (.if_icmp .le 10, 3) := by decide +kernel
theorem d_Van_least_22 : decode M_Van_least.2.1 22 = .ok (.aload_n 0, 1) := by decide +kernel
theorem d_Van_least_23 : decode M_Van_least.2.1 23 = .ok (.bipush (-8), 2) := by decide +kernel
theorem d_Van_least_25 : decode M_Van_least.2.1 25 = .ok (.invokevirtual 74, 3) := by decide +kernel
theorem d_Van_least_28 : decode M_Van_least.2.1 28 = .ok (.ireturn, 1) := by decide +kernel
theorem d_Van_least_29 : decode M_Van_least.2.1 29 = .ok (.aload_n 0, 1) := by decide +kernel
theorem d_Van_least_30 : decode M_Van_least.2.1 30 = .ok (.getfield 12, 3) := by decide +kernel
theorem d_Van_least_33 : decode M_Van_least.2.1 33 = .ok (.invokevirtual 254, 3) := by decide +kernel
theorem d_Van_least_36 : decode M_Van_least.2.1 36 = .ok (.aload_n 0, 1) := by decide +kernel
theorem d_Van_least_37 : decode M_Van_least.2.1 37 = .ok (.invokevirtual 248, 3) := by decide +kernel
theorem d_Van_least_40 : decode M_Van_least.2.1 40 = .ok (.aload_n 0, 1) := by decide +kernel
theorem d_Van_least_41 : decode M_Van_least.2.1 41 = .ok (.getfield 20, 3) := by decide +kernel
theorem d_Van_least_44 : decode M_Van_least.2.1 44 = .ok (.invokevirtual 238, 3) := by decide +kernel
theorem d_Van_least_47 : decode M_Van_least.2.1 47 = .ok (.ireturn, 1) := by decide +kernel
theorem d_Van_undo_0 : decode M_Van_undo.2.1 0 = .ok (.aload_n 0, 1) := by decide +kernel
theorem d_Van_undo_1 : decode M_Van_undo.2.1 1 = .ok (.getfield 52, 3) := by decide +kernel
theorem d_Van_undo_4 : decode M_Van_undo.2.1 4 = .ok (.getfield 257, 3) := by decide +kernel
theorem d_Van_undo_7 : decode M_Van_undo.2.1 7 = .ok (.ifCond .ne 10, 3) := by decide +kernel
theorem d_Van_undo_10 : decode M_Van_undo.2.1 10 = .ok (.aload_n 0, 1) := by decide +kernel
theorem d_Van_undo_11 : decode M_Van_undo.2.1 11 = .ok (.bipush (-2), 2) := by decide +kernel
theorem d_Van_undo_13 : decode M_Van_undo.2.1 13 = .ok (.invokevirtual 74, 3) := by decide +kernel
theorem d_Van_undo_16 : decode M_Van_undo.2.1 16 = .ok (.ireturn, 1) := by decide +kernel
theorem d_Van_undo_17 : decode M_Van_undo.2.1 17 = .ok (.aload_n 0, 1) := by decide +kernel
theorem d_Van_undo_18 : decode M_Van_undo.2.1 18 = .ok (.getfield 52, 3) := by decide +kernel
theorem d_Van_undo_21 : decode M_Van_undo.2.1 21 = .ok (.aload_n 0, 1) := by decide +kernel
theorem d_Van_undo_22 : decode M_Van_undo.2.1 22 = .ok (.getfield 46, 3) := by decide +kernel
theorem d_Van_undo_25 : decode M_Van_undo.2.1 25 = .ok (.invokevirtual 260, 3) := by decide +kernel
theorem d_Van_undo_28 : decode M_Van_undo.2.1 28 = .ok (.aload_n 0, 1) := by decide +kernel
theorem d_Van_undo_29 : decode M_Van_undo.2.1 29 = .ok (.getfield 25, 3) := by decide +kernel
theorem d_Van_undo_32 : decode M_Van_undo.2.1 32 = .ok (.aload_n 0, 1) := by decide +kernel
theorem d_Van_undo_33 : decode M_Van_undo.2.1 33 = .ok (.getfield 46, 3) := by decide +kernel
theorem d_Van_undo_36 : decode M_Van_undo.2.1 36 = .ok (.invokevirtual 92, 3) := by decide +kernel
theorem d_Van_undo_39 : decode M_Van_undo.2.1 39 = .ok (.ireturn, 1) := by decide +kernel
theorem d_Van_clear_0 : decode M_Van_clear.2.1 0 = .ok (.aload_n 0, 1) := by decide +kernel
theorem d_Van_clear_1 : decode M_Van_clear.2.1 1 = .ok (.getfield 20, 3) := by decide +kernel
theorem d_Van_clear_4 : decode M_Van_clear.2.1 4 = .ok (.invokevirtual 263, 3) := by decide +kernel
theorem d_Van_clear_7 : decode M_Van_clear.2.1 7 = .ok (.aload_n 0, 1) := by decide +kernel
theorem d_Van_clear_8 : decode M_Van_clear.2.1 8 = .ok (.getfield 46, 3) := by decide +kernel
theorem d_Van_clear_11 : decode M_Van_clear.2.1 11 = .ok (.invokevirtual 238, 3) := by decide +kernel
theorem d_Van_clear_14 : decode M_Van_clear.2.1 14 = .ok (.istore_n 1, 1) := by decide +kernel
theorem d_Van_clear_15 : decode M_Van_clear.2.1 15 = .ok (.aload_n 0, 1) := by decide +kernel
theorem d_Van_clear_16 : decode M_Van_clear.2.1 16 = .ok (.invokevirtual 248, 3) := by decide +kernel
theorem d_Van_clear_19 : decode M_Van_clear.2.1 19 = .ok (.iload_n 1, 1) := by decide +kernel
theorem d_Van_clear_20 : decode M_Van_clear.2.1 20 = .ok (.ireturn, 1) := by decide +kernel
theorem d_Van_count_0 : decode M_Van_count.2.1 0 = .ok (.iload_n 1, 1) := by decide +kernel
theorem d_Van_count_1 : decode M_Van_count.2.1 1 = .ok (.tableswitch 113 0 6 #[43, 51, 59, 75, 95, 103, 108], 43) := by decide +kernel
theorem d_Van_count_44 : decode M_Van_count.2.1 44 = .ok (.aload_n 0, 1) := by decide +kernel
theorem d_Van_count_45 : decode M_Van_count.2.1 45 = .ok (.getfield 37, 3) := by decide +kernel
theorem d_Van_count_48 : decode M_Van_count.2.1 48 = .ok (.getfield 134, 3) := by decide +kernel
theorem d_Van_count_51 : decode M_Van_count.2.1 51 = .ok (.ireturn, 1) := by decide +kernel
theorem d_Van_count_52 : decode M_Van_count.2.1 52 = .ok (.aload_n 0, 1) := by decide +kernel
theorem d_Van_count_53 : decode M_Van_count.2.1 53 = .ok (.getfield 42, 3) := by decide +kernel
theorem d_Van_count_56 : decode M_Van_count.2.1 56 = .ok (.getfield 154, 3) := by decide +kernel
theorem d_Van_count_59 : decode M_Van_count.2.1 59 = .ok (.ireturn, 1) := by decide +kernel
theorem d_Van_count_60 : decode M_Van_count.2.1 60 = .ok (.aload_n 0, 1) := by decide +kernel
theorem d_Van_count_61 : decode M_Van_count.2.1 61 = .ok (.getfield 37, 3) := by decide +kernel
theorem d_Van_count_64 : decode M_Van_count.2.1 64 = .ok (.getfield 134, 3) := by decide +kernel
theorem d_Van_count_67 : decode M_Van_count.2.1 67 = .ok (.aload_n 0, 1) := by decide +kernel
theorem d_Van_count_68 : decode M_Van_count.2.1 68 = .ok (.getfield 46, 3) := by decide +kernel
theorem d_Van_count_71 : decode M_Van_count.2.1 71 = .ok (.invokevirtual 238, 3) := by decide +kernel
theorem d_Van_count_74 : decode M_Van_count.2.1 74 = .ok (.isub, 1) := by decide +kernel
theorem d_Van_count_75 : decode M_Van_count.2.1 75 = .ok (.ireturn, 1) := by decide +kernel
theorem d_Van_count_76 : decode M_Van_count.2.1 76 = .ok (.aload_n 0, 1) := by decide +kernel
theorem d_Van_count_77 : decode M_Van_count.2.1 77 = .ok (.getfield 37, 3) := by decide +kernel
theorem d_Van_count_80 : decode M_Van_count.2.1 80 = .ok (.invokevirtual 266, 3) := by decide +kernel
theorem d_Van_count_83 : decode M_Van_count.2.1 83 = .ok (.aload_n 0, 1) := by decide +kernel
theorem d_Van_count_84 : decode M_Van_count.2.1 84 = .ok (.getfield 25, 3) := by decide +kernel
theorem d_Van_count_87 : decode M_Van_count.2.1 87 = .ok (.aload_n 0, 1) := by decide +kernel
theorem d_Van_count_88 : decode M_Van_count.2.1 88 = .ok (.getfield 46, 3) := by decide +kernel
theorem d_Van_count_91 : decode M_Van_count.2.1 91 = .ok (.invokevirtual 269, 3) := by decide +kernel
theorem d_Van_count_94 : decode M_Van_count.2.1 94 = .ok (.isub, 1) := by decide +kernel
theorem d_Van_count_95 : decode M_Van_count.2.1 95 = .ok (.ireturn, 1) := by decide +kernel
theorem d_Van_count_96 : decode M_Van_count.2.1 96 = .ok (.aload_n 0, 1) := by decide +kernel
theorem d_Van_count_97 : decode M_Van_count.2.1 97 = .ok (.getfield 52, 3) := by decide +kernel
theorem d_Van_count_100 : decode M_Van_count.2.1 100 = .ok (.getfield 257, 3) := by decide +kernel
theorem d_Van_count_103 : decode M_Van_count.2.1 103 = .ok (.ireturn, 1) := by decide +kernel
theorem d_Van_count_104 : decode M_Van_count.2.1 104 = .ok (.aload_n 0, 1) := by decide +kernel
theorem d_Van_count_105 : decode M_Van_count.2.1 105 = .ok (.invokevirtual 272, 3) := by decide +kernel
theorem d_Van_count_108 : decode M_Van_count.2.1 108 = .ok (.ireturn, 1) := by decide +kernel
theorem d_Van_count_109 : decode M_Van_count.2.1 109 = .ok (.aload_n 0, 1) := by decide +kernel
theorem d_Van_count_110 : decode M_Van_count.2.1 110 = .ok (.invokevirtual 275, 3) := by decide +kernel
theorem d_Van_count_113 : decode M_Van_count.2.1 113 = .ok (.ireturn, 1) := by decide +kernel
theorem d_Van_count_114 : decode M_Van_count.2.1 114 = .ok (.aload_n 0, 1) := by decide +kernel
theorem d_Van_count_115 : decode M_Van_count.2.1 115 = .ok (.bipush (-7), 2) := by decide +kernel
theorem d_Van_count_117 : decode M_Van_count.2.1 117 = .ok (.invokevirtual 74, 3) := by decide +kernel
theorem d_Van_count_120 : decode M_Van_count.2.1 120 = .ok (.ireturn, 1) := by decide +kernel
theorem d_Van_totalWaiting_0 : decode M_Van_totalWaiting.2.1 0 = .ok (.iconst 0, 1) := by decide +kernel
theorem d_Van_totalWaiting_1 : decode M_Van_totalWaiting.2.1 1 = .ok (.istore_n 1, 1) := by decide +kernel
theorem d_Van_totalWaiting_2 : decode M_Van_totalWaiting.2.1 2 = .ok (.iconst 0, 1) := by decide +kernel
theorem d_Van_totalWaiting_3 : decode M_Van_totalWaiting.2.1 3 = .ok (.istore_n 2, 1) := by decide +kernel
theorem d_Van_totalWaiting_4 : decode M_Van_totalWaiting.2.1 4 = .ok (.iload_n 2, 1) := by decide +kernel
theorem d_Van_totalWaiting_5 : decode M_Van_totalWaiting.2.1 5 = .ok (.aload_n 0, 1) := by decide +kernel
theorem d_Van_totalWaiting_6 : decode M_Van_totalWaiting.2.1 6 = .ok (.getfield 42, 3) := by decide +kernel
theorem d_Van_totalWaiting_9 : decode M_Van_totalWaiting.2.1 9 = .ok (.getfield 154, 3) := by decide +kernel
theorem d_Van_totalWaiting_12 : decode M_Van_totalWaiting.2.1 12 = .ok (.if_icmp .ge 32, 3) := by decide +kernel
theorem d_Van_totalWaiting_15 : decode M_Van_totalWaiting.2.1 15 = .ok (.aload_n 0, 1) := by decide +kernel
theorem d_Van_totalWaiting_16 : decode M_Van_totalWaiting.2.1 16 = .ok (.getfield 25, 3) := by decide +kernel
theorem d_Van_totalWaiting_19 : decode M_Van_totalWaiting.2.1 19 = .ok (.aload_n 0, 1) := by decide +kernel
theorem d_Van_totalWaiting_20 : decode M_Van_totalWaiting.2.1 20 = .ok (.getfield 46, 3) := by decide +kernel
theorem d_Van_totalWaiting_23 : decode M_Van_totalWaiting.2.1 23 = .ok (.iload_n 2, 1) := by decide +kernel
theorem d_Van_totalWaiting_24 : decode M_Van_totalWaiting.2.1 24 = .ok (.invokevirtual 185, 3) := by decide +kernel
theorem d_Van_totalWaiting_27 : decode M_Van_totalWaiting.2.1 27 = .ok (.pop, 1) := by decide +kernel
theorem d_Van_totalWaiting_28 : decode M_Van_totalWaiting.2.1 28 = .ok (.iload_n 1, 1) := by decide +kernel
theorem d_Van_totalWaiting_29 : decode M_Van_totalWaiting.2.1 29 = .ok (.aload_n 0, 1) := by decide +kernel
theorem d_Van_totalWaiting_30 : decode M_Van_totalWaiting.2.1 30 = .ok (.getfield 25, 3) := by decide +kernel
theorem d_Van_totalWaiting_33 : decode M_Van_totalWaiting.2.1 33 = .ok (.getfield 291, 3) := by decide +kernel
theorem d_Van_totalWaiting_36 : decode M_Van_totalWaiting.2.1 36 = .ok (.iadd, 1) := by decide +kernel
theorem d_Van_totalWaiting_37 : decode M_Van_totalWaiting.2.1 37 = .ok (.istore_n 1, 1) := by decide +kernel
theorem d_Van_totalWaiting_38 : decode M_Van_totalWaiting.2.1 38 = .ok (.iinc 2 1, 3) := by decide +kernel
theorem d_Van_totalWaiting_41 : decode M_Van_totalWaiting.2.1 41 = .ok (.goto (-37), 3) := by decide +kernel
theorem d_Van_totalWaiting_44 : decode M_Van_totalWaiting.2.1 44 = .ok (.iload_n 1, 1) := by decide +kernel
theorem d_Van_totalWaiting_45 : decode M_Van_totalWaiting.2.1 45 = .ok (.ireturn, 1) := by decide +kernel
theorem d_Van_totalLateness_0 : decode M_Van_totalLateness.2.1 0 = .ok (.iconst 0, 1) := by decide +kernel
theorem d_Van_totalLateness_1 : decode M_Van_totalLateness.2.1 1 = .ok (.istore_n 1, 1) := by decide +kernel
theorem d_Van_totalLateness_2 : decode M_Van_totalLateness.2.1 2 = .ok (.iconst 0, 1) := by decide +kernel
theorem d_Van_totalLateness_3 : decode M_Van_totalLateness.2.1 3 = .ok (.istore_n 2, 1) := by decide +kernel
theorem d_Van_totalLateness_4 : decode M_Van_totalLateness.2.1 4 = .ok (.iload_n 2, 1) := by decide +kernel
theorem d_Van_totalLateness_5 : decode M_Van_totalLateness.2.1 5 = .ok (.aload_n 0, 1) := by decide +kernel
theorem d_Van_totalLateness_6 : decode M_Van_totalLateness.2.1 6 = .ok (.getfield 42, 3) := by decide +kernel
theorem d_Van_totalLateness_9 : decode M_Van_totalLateness.2.1 9 = .ok (.getfield 154, 3) := by decide +kernel
theorem d_Van_totalLateness_12 : decode M_Van_totalLateness.2.1 12 = .ok (.if_icmp .ge 32, 3) := by decide +kernel
theorem d_Van_totalLateness_15 : decode M_Van_totalLateness.2.1 15 = .ok (.aload_n 0, 1) := by decide +kernel
theorem d_Van_totalLateness_16 : decode M_Van_totalLateness.2.1 16 = .ok (.getfield 25, 3) := by decide +kernel
theorem d_Van_totalLateness_19 : decode M_Van_totalLateness.2.1 19 = .ok (.aload_n 0, 1) := by decide +kernel
theorem d_Van_totalLateness_20 : decode M_Van_totalLateness.2.1 20 = .ok (.getfield 46, 3) := by decide +kernel
theorem d_Van_totalLateness_23 : decode M_Van_totalLateness.2.1 23 = .ok (.iload_n 2, 1) := by decide +kernel
theorem d_Van_totalLateness_24 : decode M_Van_totalLateness.2.1 24 = .ok (.invokevirtual 185, 3) := by decide +kernel
theorem d_Van_totalLateness_27 : decode M_Van_totalLateness.2.1 27 = .ok (.pop, 1) := by decide +kernel
theorem d_Van_totalLateness_28 : decode M_Van_totalLateness.2.1 28 = .ok (.iload_n 1, 1) := by decide +kernel
theorem d_Van_totalLateness_29 : decode M_Van_totalLateness.2.1 29 = .ok (.aload_n 0, 1) := by decide +kernel
theorem d_Van_totalLateness_30 : decode M_Van_totalLateness.2.1 30 = .ok (.getfield 25, 3) := by decide +kernel
theorem d_Van_totalLateness_33 : decode M_Van_totalLateness.2.1 33 = .ok (.getfield 294, 3) := by decide +kernel
theorem d_Van_totalLateness_36 : decode M_Van_totalLateness.2.1 36 = .ok (.iadd, 1) := by decide +kernel
theorem d_Van_totalLateness_37 : decode M_Van_totalLateness.2.1 37 = .ok (.istore_n 1, 1) := by decide +kernel
theorem d_Van_totalLateness_38 : decode M_Van_totalLateness.2.1 38 = .ok (.iinc 2 1, 3) := by decide +kernel
theorem d_Van_totalLateness_41 : decode M_Van_totalLateness.2.1 41 = .ok (.goto (-37), 3) := by decide +kernel
theorem d_Van_totalLateness_44 : decode M_Van_totalLateness.2.1 44 = .ok (.iload_n 1, 1) := by decide +kernel
theorem d_Van_totalLateness_45 : decode M_Van_totalLateness.2.1 45 = .ok (.ireturn, 1) := by decide +kernel
theorem d_Van_lay_0 : decode M_Van_lay.2.1 0 = .ok (.aload_n 0, 1) := by decide +kernel
theorem d_Van_lay_1 : decode M_Van_lay.2.1 1 = .ok (.getfield 42, 3) := by decide +kernel
theorem d_Van_lay_4 : decode M_Van_lay.2.1 4 = .ok (.iload_n 1, 1) := by decide +kernel
theorem d_Van_lay_5 : decode M_Van_lay.2.1 5 = .ok (.invokevirtual 163, 3) := by decide +kernel
theorem d_Van_lay_8 : decode M_Van_lay.2.1 8 = .ok (.ifCond .ne 10, 3) := by decide +kernel
theorem d_Van_lay_11 : decode M_Van_lay.2.1 11 = .ok (.aload_n 0, 1) := by decide +kernel
theorem d_Van_lay_12 : decode M_Van_lay.2.1 12 = .ok (.bipush (-3), 2) := by decide +kernel
theorem d_Van_lay_14 : decode M_Van_lay.2.1 14 = .ok (.invokevirtual 74, 3) := by decide +kernel
theorem d_Van_lay_17 : decode M_Van_lay.2.1 17 = .ok (.ireturn, 1) := by decide +kernel
theorem d_Van_lay_18 : decode M_Van_lay.2.1 18 = .ok (.aload_n 0, 1) := by decide +kernel
theorem d_Van_lay_19 : decode M_Van_lay.2.1 19 = .ok (.getfield 25, 3) := by decide +kernel
theorem d_Van_lay_22 : decode M_Van_lay.2.1 22 = .ok (.aload_n 0, 1) := by decide +kernel
theorem d_Van_lay_23 : decode M_Van_lay.2.1 23 = .ok (.getfield 46, 3) := by decide +kernel
theorem d_Van_lay_26 : decode M_Van_lay.2.1 26 = .ok (.iload_n 1, 1) := by decide +kernel
theorem d_Van_lay_27 : decode M_Van_lay.2.1 27 = .ok (.invokevirtual 185, 3) := by decide +kernel
theorem d_Van_lay_30 : decode M_Van_lay.2.1 30 = .ok (.pop, 1) := by decide +kernel
theorem d_Van_lay_31 : decode M_Van_lay.2.1 31 = .ok (.aload_n 0, 1) := by decide +kernel
theorem d_Van_lay_32 : decode M_Van_lay.2.1 32 = .ok (.aload_n 0, 1) := by decide +kernel
theorem d_Van_lay_33 : decode M_Van_lay.2.1 33 = .ok (.getfield 46, 3) := by decide +kernel
theorem d_Van_lay_36 : decode M_Van_lay.2.1 36 = .ok (.getfield 178, 3) := by decide +kernel
theorem d_Van_lay_39 : decode M_Van_lay.2.1 39 = .ok (.iload_n 1, 1) := by decide +kernel
theorem d_Van_lay_40 : decode M_Van_lay.2.1 40 = .ok (.iaload, 1) := by decide +kernel
theorem d_Van_lay_41 : decode M_Van_lay.2.1 41 = .ok (.putfield 60, 3) := by decide +kernel
theorem d_Van_lay_44 : decode M_Van_lay.2.1 44 = .ok (.aload_n 0, 1) := by decide +kernel
theorem d_Van_lay_45 : decode M_Van_lay.2.1 45 = .ok (.getfield 25, 3) := by decide +kernel
theorem d_Van_lay_48 : decode M_Van_lay.2.1 48 = .ok (.getfield 195, 3) := by decide +kernel
theorem d_Van_lay_51 : decode M_Van_lay.2.1 51 = .ok (.iconst 0, 1) := by decide +kernel
theorem d_Van_lay_52 : decode M_Van_lay.2.1 52 = .ok (.aload_n 0, 1) := by decide +kernel
theorem d_Van_lay_53 : decode M_Van_lay.2.1 53 = .ok (.getfield 56, 3) := by decide +kernel
theorem d_Van_lay_56 : decode M_Van_lay.2.1 56 = .ok (.iconst 0, 1) := by decide +kernel
theorem d_Van_lay_57 : decode M_Van_lay.2.1 57 = .ok (.aload_n 0, 1) := by decide +kernel
theorem d_Van_lay_58 : decode M_Van_lay.2.1 58 = .ok (.getfield 60, 3) := by decide +kernel
theorem d_Van_lay_61 : decode M_Van_lay.2.1 61 = .ok (.invokestatic 278, 3) := by decide +kernel
theorem d_Van_lay_64 : decode M_Van_lay.2.1 64 = .ok (.aload_n 0, 1) := by decide +kernel
theorem d_Van_lay_65 : decode M_Van_lay.2.1 65 = .ok (.getfield 60, 3) := by decide +kernel
theorem d_Van_lay_68 : decode M_Van_lay.2.1 68 = .ok (.ireturn, 1) := by decide +kernel
theorem d_Van_tear_0 : decode M_Van_tear.2.1 0 = .ok (.aload_n 0, 1) := by decide +kernel
theorem d_Van_tear_1 : decode M_Van_tear.2.1 1 = .ok (.getfield 60, 3) := by decide +kernel
theorem d_Van_tear_4 : decode M_Van_tear.2.1 4 = .ok (.iconst (-1), 1) := by decide +kernel
theorem d_Van_tear_5 : decode M_Van_tear.2.1 5 = .ok (.if_icmp .ne 5, 3) := by decide +kernel
theorem d_Van_tear_8 : decode M_Van_tear.2.1 8 = .ok (.iconst 0, 1) := by decide +kernel
theorem d_Van_tear_9 : decode M_Van_tear.2.1 9 = .ok (.ireturn, 1) := by decide +kernel
theorem d_Van_tear_10 : decode M_Van_tear.2.1 10 = .ok (.aload_n 0, 1) := by decide +kernel
theorem d_Van_tear_11 : decode M_Van_tear.2.1 11 = .ok (.iconst (-1), 1) := by decide +kernel
theorem d_Van_tear_12 : decode M_Van_tear.2.1 12 = .ok (.putfield 60, 3) := by decide +kernel
theorem d_Van_tear_15 : decode M_Van_tear.2.1 15 = .ok (.iconst 1, 1) := by decide +kernel
theorem d_Van_tear_16 : decode M_Van_tear.2.1 16 = .ok (.ireturn, 1) := by decide +kernel
theorem d_Van_row_0 : decode M_Van_row.2.1 0 = .ok (.aload_n 0, 1) := by decide +kernel
theorem d_Van_row_1 : decode M_Van_row.2.1 1 = .ok (.getfield 60, 3) := by decide +kernel
theorem d_Van_row_4 : decode M_Van_row.2.1 4 = .ok (.iconst (-1), 1) := by decide +kernel
theorem d_Van_row_5 : decode M_Van_row.2.1 5 = .ok (.if_icmp .ne 10, 3) := by decide +kernel
theorem d_Van_row_8 : decode M_Van_row.2.1 8 = .ok (.aload_n 0, 1) := by decide +kernel
theorem d_Van_row_9 : decode M_Van_row.2.1 9 = .ok (.bipush (-2), 2) := by decide +kernel
theorem d_Van_row_11 : decode M_Van_row.2.1 11 = .ok (.invokevirtual 74, 3) := by decide +kernel
theorem d_Van_row_14 : decode M_Van_row.2.1 14 = .ok (.ireturn, 1) := by decide +kernel
theorem d_Van_row_15 : decode M_Van_row.2.1 15 = .ok (.iload_n 1, 1) := by decide +kernel
theorem d_Van_row_16 : decode M_Van_row.2.1 16 = .ok (.ifCond .lt 11, 3) := by decide +kernel
theorem d_Van_row_19 : decode M_Van_row.2.1 19 = .ok (.iload_n 1, 1) := by decide +kernel
theorem d_Van_row_20 : decode M_Van_row.2.1 20 = .ok (.aload_n 0, 1) := by decide +kernel
theorem d_Van_row_21 : decode M_Van_row.2.1 21 = .ok (.getfield 60, 3) := by decide +kernel
theorem d_Van_row_24 : decode M_Van_row.2.1 24 = .ok (.if_icmp .lt 10, 3) := by decide +kernel
theorem d_Van_row_27 : decode M_Van_row.2.1 27 = .ok (.aload_n 0, 1) := by decide +kernel
theorem d_Van_row_28 : decode M_Van_row.2.1 28 = .ok (.bipush (-3), 2) := by decide +kernel
theorem d_Van_row_30 : decode M_Van_row.2.1 30 = .ok (.invokevirtual 74, 3) := by decide +kernel
theorem d_Van_row_33 : decode M_Van_row.2.1 33 = .ok (.ireturn, 1) := by decide +kernel
theorem d_Van_row_34 : decode M_Van_row.2.1 34 = .ok (.aload_n 0, 1) := by decide +kernel
theorem d_Van_row_35 : decode M_Van_row.2.1 35 = .ok (.getfield 56, 3) := by decide +kernel
theorem d_Van_row_38 : decode M_Van_row.2.1 38 = .ok (.iload_n 1, 1) := by decide +kernel
theorem d_Van_row_39 : decode M_Van_row.2.1 39 = .ok (.iaload, 1) := by decide +kernel
theorem d_Van_row_40 : decode M_Van_row.2.1 40 = .ok (.ireturn, 1) := by decide +kernel
theorem d_Van_copy_0 : decode M_Van_copy.2.1 0 = .ok (.aload_n 0, 1) := by decide +kernel
theorem d_Van_copy_1 : decode M_Van_copy.2.1 1 = .ok (.getfield 60, 3) := by decide +kernel
theorem d_Van_copy_4 : decode M_Van_copy.2.1 4 = .ok (.iconst (-1), 1) := by decide +kernel
theorem d_Van_copy_5 : decode M_Van_copy.2.1 5 = .ok (.if_icmp .ne 10, 3) := by decide +kernel
theorem d_Van_copy_8 : decode M_Van_copy.2.1 8 = .ok (.aload_n 0, 1) := by decide +kernel
theorem d_Van_copy_9 : decode M_Van_copy.2.1 9 = .ok (.bipush (-2), 2) := by decide +kernel
theorem d_Van_copy_11 : decode M_Van_copy.2.1 11 = .ok (.invokevirtual 74, 3) := by decide +kernel
theorem d_Van_copy_14 : decode M_Van_copy.2.1 14 = .ok (.ireturn, 1) := by decide +kernel
theorem d_Van_copy_15 : decode M_Van_copy.2.1 15 = .ok (.iload_n 3, 1) := by decide +kernel
theorem d_Van_copy_16 : decode M_Van_copy.2.1 16 = .ok (.ifCond .ge 10, 3) := by decide +kernel
theorem d_Van_copy_19 : decode M_Van_copy.2.1 19 = .ok (.aload_n 0, 1) := by decide +kernel
theorem d_Van_copy_20 : decode M_Van_copy.2.1 20 = .ok (.bipush (-4), 2) := by decide +kernel
theorem d_Van_copy_22 : decode M_Van_copy.2.1 22 = .ok (.invokevirtual 74, 3) := by decide +kernel
theorem d_Van_copy_25 : decode M_Van_copy.2.1 25 = .ok (.ireturn, 1) := by decide +kernel
theorem d_Van_copy_26 : decode M_Van_copy.2.1 26 = .ok (.iload_n 1, 1) := by decide +kernel
theorem d_Van_copy_27 : decode M_Van_copy.2.1 27 = .ok (.ifCond .lt 7, 3) := by decide +kernel
theorem d_Van_copy_30 : decode M_Van_copy.2.1 30 = .ok (.iload_n 2, 1) := by decide +kernel
theorem d_Van_copy_31 : decode M_Van_copy.2.1 31 = .ok (.ifCond .ge 10, 3) := by decide +kernel
theorem d_Van_copy_34 : decode M_Van_copy.2.1 34 = .ok (.aload_n 0, 1) := by decide +kernel
theorem d_Van_copy_35 : decode M_Van_copy.2.1 35 = .ok (.bipush (-6), 2) := by decide +kernel
theorem d_Van_copy_37 : decode M_Van_copy.2.1 37 = .ok (.invokevirtual 74, 3) := by decide +kernel
theorem d_Van_copy_40 : decode M_Van_copy.2.1 40 = .ok (.ireturn, 1) := by decide +kernel
theorem d_Van_copy_41 : decode M_Van_copy.2.1 41 = .ok (.iload_n 1, 1) := by decide +kernel
theorem d_Van_copy_42 : decode M_Van_copy.2.1 42 = .ok (.i2l, 1) := by decide +kernel
theorem d_Van_copy_43 : decode M_Van_copy.2.1 43 = .ok (.iload_n 3, 1) := by decide +kernel
theorem d_Van_copy_44 : decode M_Van_copy.2.1 44 = .ok (.i2l, 1) := by decide +kernel
theorem d_Van_copy_45 : decode M_Van_copy.2.1 45 = .ok (.ladd, 1) := by decide +kernel
theorem d_Van_copy_46 : decode M_Van_copy.2.1 46 = .ok (.aload_n 0, 1) := by decide +kernel
theorem d_Van_copy_47 : decode M_Van_copy.2.1 47 = .ok (.getfield 60, 3) := by decide +kernel
theorem d_Van_copy_50 : decode M_Van_copy.2.1 50 = .ok (.i2l, 1) := by decide +kernel
theorem d_Van_copy_51 : decode M_Van_copy.2.1 51 = .ok (.lcmp, 1) := by decide +kernel
theorem d_Van_copy_52 : decode M_Van_copy.2.1 52 = .ok (.ifCond .gt 17, 3) := by decide +kernel
theorem d_Van_copy_55 : decode M_Van_copy.2.1 55 = .ok (.iload_n 2, 1) := by decide +kernel
theorem d_Van_copy_56 : decode M_Van_copy.2.1 56 = .ok (.i2l, 1) := by decide +kernel
theorem d_Van_copy_57 : decode M_Van_copy.2.1 57 = .ok (.iload_n 3, 1) := by decide +kernel
theorem d_Van_copy_58 : decode M_Van_copy.2.1 58 = .ok (.i2l, 1) := by decide +kernel
theorem d_Van_copy_59 : decode M_Van_copy.2.1 59 = .ok (.ladd, 1) := by decide +kernel
theorem d_Van_copy_60 : decode M_Van_copy.2.1 60 = .ok (.aload_n 0, 1) := by decide +kernel
theorem d_Van_copy_61 : decode M_Van_copy.2.1 61 = .ok (.getfield 60, 3) := by decide +kernel
theorem d_Van_copy_64 : decode M_Van_copy.2.1 64 = .ok (.i2l, 1) := by decide +kernel
theorem d_Van_copy_65 : decode M_Van_copy.2.1 65 = .ok (.lcmp, 1) := by decide +kernel
theorem d_Van_copy_66 : decode M_Van_copy.2.1 66 = .ok (.ifCond .le 10, 3) := by decide +kernel
theorem d_Van_copy_69 : decode M_Van_copy.2.1 69 = .ok (.aload_n 0, 1) := by decide +kernel
theorem d_Van_copy_70 : decode M_Van_copy.2.1 70 = .ok (.bipush (-6), 2) := by decide +kernel
theorem d_Van_copy_72 : decode M_Van_copy.2.1 72 = .ok (.invokevirtual 74, 3) := by decide +kernel
theorem d_Van_copy_75 : decode M_Van_copy.2.1 75 = .ok (.ireturn, 1) := by decide +kernel
theorem d_Van_copy_76 : decode M_Van_copy.2.1 76 = .ok (.aload_n 0, 1) := by decide +kernel
theorem d_Van_copy_77 : decode M_Van_copy.2.1 77 = .ok (.getfield 56, 3) := by decide +kernel
theorem d_Van_copy_80 : decode M_Van_copy.2.1 80 = .ok (.iload_n 1, 1) := by decide +kernel
theorem d_Van_copy_81 : decode M_Van_copy.2.1 81 = .ok (.aload_n 0, 1) := by decide +kernel
theorem d_Van_copy_82 : decode M_Van_copy.2.1 82 = .ok (.getfield 56, 3) := by decide +kernel
theorem d_Van_copy_85 : decode M_Van_copy.2.1 85 = .ok (.iload_n 2, 1) := by decide +kernel
theorem d_Van_copy_86 : decode M_Van_copy.2.1 86 = .ok (.iload_n 3, 1) := by decide +kernel
theorem d_Van_copy_87 : decode M_Van_copy.2.1 87 = .ok (.invokestatic 278, 3) := by decide +kernel
theorem d_Van_copy_90 : decode M_Van_copy.2.1 90 = .ok (.iload_n 3, 1) := by decide +kernel
theorem d_Van_copy_91 : decode M_Van_copy.2.1 91 = .ok (.ireturn, 1) := by decide +kernel
theorem d_Van_status_0 : decode M_Van_status.2.1 0 = .ok (.iload_n 1, 1) := by decide +kernel
theorem d_Van_status_1 : decode M_Van_status.2.1 1 = .ok (.bipush (-2), 2) := by decide +kernel
theorem d_Van_status_3 : decode M_Van_status.2.1 3 = .ok (.if_icmp .gt 9, 3) := by decide +kernel
theorem d_Van_status_6 : decode M_Van_status.2.1 6 = .ok (.iload_n 1, 1) := by decide +kernel
theorem d_Van_status_7 : decode M_Van_status.2.1 7 = .ok (.bipush (-8), 2) := by decide +kernel
theorem d_Van_status_9 : decode M_Van_status.2.1 9 = .ok (.if_icmp .ge 10, 3) := by decide +kernel
theorem d_Van_status_12 : decode M_Van_status.2.1 12 = .ok (.aload_n 0, 1) := by decide +kernel
theorem d_Van_status_13 : decode M_Van_status.2.1 13 = .ok (.bipush (-7), 2) := by decide +kernel
theorem d_Van_status_15 : decode M_Van_status.2.1 15 = .ok (.invokevirtual 74, 3) := by decide +kernel
theorem d_Van_status_18 : decode M_Van_status.2.1 18 = .ok (.ireturn, 1) := by decide +kernel
theorem d_Van_status_19 : decode M_Van_status.2.1 19 = .ok (.aload_n 0, 1) := by decide +kernel
theorem d_Van_status_20 : decode M_Van_status.2.1 20 = .ok (.getfield 67, 3) := by decide +kernel
theorem d_Van_status_23 : decode M_Van_status.2.1 23 = .ok (.iload_n 1, 1) := by decide +kernel
theorem d_Van_status_24 : decode M_Van_status.2.1 24 = .ok (.ineg, 1) := by decide +kernel
theorem d_Van_status_25 : decode M_Van_status.2.1 25 = .ok (.iaload, 1) := by decide +kernel
theorem d_Van_status_26 : decode M_Van_status.2.1 26 = .ok (.ireturn, 1) := by decide +kernel
