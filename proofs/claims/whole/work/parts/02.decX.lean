theorem dX0_init_0 : decode cX0_init 0 = .ok (.aload_n 0, 1) := by decide +kernel
theorem dX0_init_1 : decode cX0_init 1 = .ok (.invokespecial 3, 3) := by decide +kernel
theorem dX0_init_4 : decode cX0_init 4 = .ok (.aload_n 0, 1) := by decide +kernel
theorem dX0_init_5 : decode cX0_init 5 = .ok (.iconst 0, 1) := by decide +kernel
theorem dX0_init_6 : decode cX0_init 6 = .ok (.putfield 9, 3) := by decide +kernel
theorem dX0_init_9 : decode cX0_init 9 = .ok (.aload_n 0, 1) := by decide +kernel
theorem dX0_init_10 : decode cX0_init 10 = .ok (.iconst 0, 1) := by decide +kernel
theorem dX0_init_11 : decode cX0_init 11 = .ok (.putfield 15, 3) := by decide +kernel
theorem dX0_init_14 : decode cX0_init 14 = .ok (.aload_n 0, 1) := by decide +kernel
theorem dX0_init_15 : decode cX0_init 15 = .ok (.new 18, 3) := by decide +kernel
theorem dX0_init_18 : decode cX0_init 18 = .ok (.dup, 1) := by decide +kernel
theorem dX0_init_19 : decode cX0_init 19 = .ok (.iconst 1, 1) := by decide +kernel
theorem dX0_init_20 : decode cX0_init 20 = .ok (.newarray .int, 2) := by decide +kernel
theorem dX0_init_22 : decode cX0_init 22 = .ok (.dup, 1) := by decide +kernel
theorem dX0_init_23 : decode cX0_init 23 = .ok (.iconst 0, 1) := by decide +kernel
theorem dX0_init_24 : decode cX0_init 24 = .ok (.bipush 26, 2) := by decide +kernel
theorem dX0_init_26 : decode cX0_init 26 = .ok (.iastore, 1) := by decide +kernel
theorem dX0_init_27 : decode cX0_init 27 = .ok (.invokespecial 20, 3) := by decide +kernel
theorem dX0_init_30 : decode cX0_init 30 = .ok (.putfield 23, 3) := by decide +kernel
theorem dX0_init_33 : decode cX0_init 33 = .ok (.aload_n 0, 1) := by decide +kernel
theorem dX0_init_34 : decode cX0_init 34 = .ok (.aconst_null, 1) := by decide +kernel
theorem dX0_init_35 : decode cX0_init 35 = .ok (.putfield 27, 3) := by decide +kernel
theorem dX0_init_38 : decode cX0_init 38 = .ok (.aload_n 0, 1) := by decide +kernel
theorem dX0_init_39 : decode cX0_init 39 = .ok (.iconst 0, 1) := by decide +kernel
theorem dX0_init_40 : decode cX0_init 40 = .ok (.putfield 31, 3) := by decide +kernel
theorem dX0_init_43 : decode cX0_init 43 = .ok (.aload_n 0, 1) := by decide +kernel
theorem dX0_init_44 : decode cX0_init 44 = .ok (.bipush 6, 2) := by decide +kernel
theorem dX0_init_46 : decode cX0_init 46 = .ok (.newarray .int, 2) := by decide +kernel
theorem dX0_init_48 : decode cX0_init 48 = .ok (.putfield 34, 3) := by decide +kernel
theorem dX0_init_51 : decode cX0_init 51 = .ok (.aload_n 0, 1) := by decide +kernel
theorem dX0_init_52 : decode cX0_init 52 = .ok (.sipush 385, 3) := by decide +kernel
theorem dX0_init_55 : decode cX0_init 55 = .ok (.newarray .int, 2) := by decide +kernel
theorem dX0_init_57 : decode cX0_init 57 = .ok (.putfield 38, 3) := by decide +kernel
theorem dX0_init_60 : decode cX0_init 60 = .ok (.aload_n 0, 1) := by decide +kernel
theorem dX0_init_61 : decode cX0_init 61 = .ok (.sipush 384, 3) := by decide +kernel
theorem dX0_init_64 : decode cX0_init 64 = .ok (.newarray .int, 2) := by decide +kernel
theorem dX0_init_66 : decode cX0_init 66 = .ok (.putfield 41, 3) := by decide +kernel
theorem dX0_init_69 : decode cX0_init 69 = .ok (.aload_n 0, 1) := by decide +kernel
theorem dX0_init_70 : decode cX0_init 70 = .ok (.iconst 0, 1) := by decide +kernel
theorem dX0_init_71 : decode cX0_init 71 = .ok (.putfield 44, 3) := by decide +kernel
theorem dX0_init_74 : decode cX0_init 74 = .ok (.aload_n 0, 1) := by decide +kernel
theorem dX0_init_75 : decode cX0_init 75 = .ok (.iconst 0, 1) := by decide +kernel
theorem dX0_init_76 : decode cX0_init 76 = .ok (.putfield 47, 3) := by decide +kernel
theorem dX0_init_79 : decode cX0_init 79 = .ok (.return_, 1) := by decide +kernel
theorem dX0_set_0 : decode cX0_set 0 = .ok (.aload_n 0, 1) := by decide +kernel
theorem dX0_set_1 : decode cX0_set 1 = .ok (.aload_n 2, 1) := by decide +kernel
theorem dX0_set_2 : decode cX0_set 2 = .ok (.putfield 23, 3) := by decide +kernel
theorem dX0_set_5 : decode cX0_set 5 = .ok (.aload_n 0, 1) := by decide +kernel
theorem dX0_set_6 : decode cX0_set 6 = .ok (.aload_n 3, 1) := by decide +kernel
theorem dX0_set_7 : decode cX0_set 7 = .ok (.putfield 27, 3) := by decide +kernel
theorem dX0_set_10 : decode cX0_set 10 = .ok (.aload_n 0, 1) := by decide +kernel
theorem dX0_set_11 : decode cX0_set 11 = .ok (.iload 5, 2) := by decide +kernel
theorem dX0_set_13 : decode cX0_set 13 = .ok (.putfield 31, 3) := by decide +kernel
theorem dX0_set_16 : decode cX0_set 16 = .ok (.aload_n 0, 1) := by decide +kernel
theorem dX0_set_17 : decode cX0_set 17 = .ok (.aload_n 1, 1) := by decide +kernel
theorem dX0_set_18 : decode cX0_set 18 = .ok (.invokevirtual 50, 3) := by decide +kernel
theorem dX0_set_21 : decode cX0_set 21 = .ok (.putfield 9, 3) := by decide +kernel
theorem dX0_set_24 : decode cX0_set 24 = .ok (.aload_n 0, 1) := by decide +kernel
theorem dX0_set_25 : decode cX0_set 25 = .ok (.aload_n 1, 1) := by decide +kernel
theorem dX0_set_26 : decode cX0_set 26 = .ok (.getfield 55, 3) := by decide +kernel
theorem dX0_set_29 : decode cX0_set 29 = .ok (.putfield 15, 3) := by decide +kernel
theorem dX0_set_32 : decode cX0_set 32 = .ok (.aload_n 0, 1) := by decide +kernel
theorem dX0_set_33 : decode cX0_set 33 = .ok (.getfield 34, 3) := by decide +kernel
theorem dX0_set_36 : decode cX0_set 36 = .ok (.iconst 0, 1) := by decide +kernel
theorem dX0_set_37 : decode cX0_set 37 = .ok (.aload_n 0, 1) := by decide +kernel
theorem dX0_set_38 : decode cX0_set 38 = .ok (.getfield 9, 3) := by decide +kernel
theorem dX0_set_41 : decode cX0_set 41 = .ok (.iastore, 1) := by decide +kernel
theorem dX0_set_42 : decode cX0_set 42 = .ok (.aload_n 0, 1) := by decide +kernel
theorem dX0_set_43 : decode cX0_set 43 = .ok (.getfield 34, 3) := by decide +kernel
theorem dX0_set_46 : decode cX0_set 46 = .ok (.iconst 2, 1) := by decide +kernel
theorem dX0_set_47 : decode cX0_set 47 = .ok (.aload_n 2, 1) := by decide +kernel
theorem dX0_set_48 : decode cX0_set 48 = .ok (.invokevirtual 58, 3) := by decide +kernel
theorem dX0_set_51 : decode cX0_set 51 = .ok (.iastore, 1) := by decide +kernel
theorem dX0_set_52 : decode cX0_set 52 = .ok (.aload_n 0, 1) := by decide +kernel
theorem dX0_set_53 : decode cX0_set 53 = .ok (.getfield 34, 3) := by decide +kernel
theorem dX0_set_56 : decode cX0_set 56 = .ok (.iconst 5, 1) := by decide +kernel
theorem dX0_set_57 : decode cX0_set 57 = .ok (.iload 4, 2) := by decide +kernel
theorem dX0_set_59 : decode cX0_set 59 = .ok (.iastore, 1) := by decide +kernel
theorem dX0_set_60 : decode cX0_set 60 = .ok (.return_, 1) := by decide +kernel
theorem dX0_movedFrom_0 : decode cX0_movedFrom 0 = .ok (.aload_n 0, 1) := by decide +kernel
theorem dX0_movedFrom_1 : decode cX0_movedFrom 1 = .ok (.getfield 9, 3) := by decide +kernel
theorem dX0_movedFrom_4 : decode cX0_movedFrom 4 = .ok (.istore_n 3, 1) := by decide +kernel
theorem dX0_movedFrom_5 : decode cX0_movedFrom 5 = .ok (.aload_n 0, 1) := by decide +kernel
theorem dX0_movedFrom_6 : decode cX0_movedFrom 6 = .ok (.getfield 27, 3) := by decide +kernel
theorem dX0_movedFrom_9 : decode cX0_movedFrom 9 = .ok (.ifnull 56, 3) := by decide +kernel
theorem dX0_movedFrom_12 : decode cX0_movedFrom 12 = .ok (.aload_n 0, 1) := by decide +kernel
theorem dX0_movedFrom_13 : decode cX0_movedFrom 13 = .ok (.getfield 34, 3) := by decide +kernel
theorem dX0_movedFrom_16 : decode cX0_movedFrom 16 = .ok (.iconst 1, 1) := by decide +kernel
theorem dX0_movedFrom_17 : decode cX0_movedFrom 17 = .ok (.iload_n 1, 1) := by decide +kernel
theorem dX0_movedFrom_18 : decode cX0_movedFrom 18 = .ok (.iastore, 1) := by decide +kernel
theorem dX0_movedFrom_19 : decode cX0_movedFrom 19 = .ok (.aload_n 0, 1) := by decide +kernel
theorem dX0_movedFrom_20 : decode cX0_movedFrom 20 = .ok (.getfield 34, 3) := by decide +kernel
theorem dX0_movedFrom_23 : decode cX0_movedFrom 23 = .ok (.iconst 3, 1) := by decide +kernel
theorem dX0_movedFrom_24 : decode cX0_movedFrom 24 = .ok (.aload_n 0, 1) := by decide +kernel
theorem dX0_movedFrom_25 : decode cX0_movedFrom 25 = .ok (.getfield 23, 3) := by decide +kernel
theorem dX0_movedFrom_28 : decode cX0_movedFrom 28 = .ok (.iload_n 1, 1) := by decide +kernel
theorem dX0_movedFrom_29 : decode cX0_movedFrom 29 = .ok (.invokevirtual 61, 3) := by decide +kernel
theorem dX0_movedFrom_32 : decode cX0_movedFrom 32 = .ok (.iastore, 1) := by decide +kernel
theorem dX0_movedFrom_33 : decode cX0_movedFrom 33 = .ok (.aload_n 0, 1) := by decide +kernel
theorem dX0_movedFrom_34 : decode cX0_movedFrom 34 = .ok (.getfield 34, 3) := by decide +kernel
theorem dX0_movedFrom_37 : decode cX0_movedFrom 37 = .ok (.iconst 4, 1) := by decide +kernel
theorem dX0_movedFrom_38 : decode cX0_movedFrom 38 = .ok (.iload_n 2, 1) := by decide +kernel
theorem dX0_movedFrom_39 : decode cX0_movedFrom 39 = .ok (.bipush 24, 2) := by decide +kernel
theorem dX0_movedFrom_41 : decode cX0_movedFrom 41 = .ok (.invokestatic 65, 3) := by decide +kernel
theorem dX0_movedFrom_44 : decode cX0_movedFrom 44 = .ok (.iastore, 1) := by decide +kernel
theorem dX0_movedFrom_45 : decode cX0_movedFrom 45 = .ok (.aload_n 0, 1) := by decide +kernel
theorem dX0_movedFrom_46 : decode cX0_movedFrom 46 = .ok (.getfield 27, 3) := by decide +kernel
theorem dX0_movedFrom_49 : decode cX0_movedFrom 49 = .ok (.aload_n 0, 1) := by decide +kernel
theorem dX0_movedFrom_50 : decode cX0_movedFrom 50 = .ok (.getfield 34, 3) := by decide +kernel
theorem dX0_movedFrom_53 : decode cX0_movedFrom 53 = .ok (.invokevirtual 69, 3) := by decide +kernel
theorem dX0_movedFrom_56 : decode cX0_movedFrom 56 = .ok (.i2l, 1) := by decide +kernel
theorem dX0_movedFrom_57 : decode cX0_movedFrom 57 = .ok (.bipush (-15), 2) := by decide +kernel
theorem dX0_movedFrom_59 : decode cX0_movedFrom 59 = .ok (.bipush 15, 2) := by decide +kernel
theorem dX0_movedFrom_61 : decode cX0_movedFrom 61 = .ok (.invokestatic 75, 3) := by decide +kernel
theorem dX0_movedFrom_64 : decode cX0_movedFrom 64 = .ok (.istore_n 3, 1) := by decide +kernel
theorem dX0_movedFrom_65 : decode cX0_movedFrom 65 = .ok (.iload_n 1, 1) := by decide +kernel
theorem dX0_movedFrom_66 : decode cX0_movedFrom 66 = .ok (.iload_n 3, 1) := by decide +kernel
theorem dX0_movedFrom_67 : decode cX0_movedFrom 67 = .ok (.iadd, 1) := by decide +kernel
theorem dX0_movedFrom_68 : decode cX0_movedFrom 68 = .ok (.aload_n 0, 1) := by decide +kernel
theorem dX0_movedFrom_69 : decode cX0_movedFrom 69 = .ok (.getfield 23, 3) := by decide +kernel
theorem dX0_movedFrom_72 : decode cX0_movedFrom 72 = .ok (.invokevirtual 58, 3) := by decide +kernel
theorem dX0_movedFrom_75 : decode cX0_movedFrom 75 = .ok (.invokestatic 65, 3) := by decide +kernel
theorem dX0_movedFrom_78 : decode cX0_movedFrom 78 = .ok (.ireturn, 1) := by decide +kernel
theorem dX0_trace_0 : decode cX0_trace 0 = .ok (.aload_n 0, 1) := by decide +kernel
theorem dX0_trace_1 : decode cX0_trace 1 = .ok (.getfield 41, 3) := by decide +kernel
theorem dX0_trace_4 : decode cX0_trace 4 = .ok (.iconst (-1), 1) := by decide +kernel
theorem dX0_trace_5 : decode cX0_trace 5 = .ok (.invokestatic 79, 3) := by decide +kernel
theorem dX0_trace_8 : decode cX0_trace 8 = .ok (.aload_n 0, 1) := by decide +kernel
theorem dX0_trace_9 : decode cX0_trace 9 = .ok (.iconst 0, 1) := by decide +kernel
theorem dX0_trace_10 : decode cX0_trace 10 = .ok (.putfield 47, 3) := by decide +kernel
theorem dX0_trace_13 : decode cX0_trace 13 = .ok (.aload_n 0, 1) := by decide +kernel
theorem dX0_trace_14 : decode cX0_trace 14 = .ok (.getfield 15, 3) := by decide +kernel
theorem dX0_trace_17 : decode cX0_trace 17 = .ok (.istore_n 1, 1) := by decide +kernel
theorem dX0_trace_18 : decode cX0_trace 18 = .ok (.aload_n 0, 1) := by decide +kernel
theorem dX0_trace_19 : decode cX0_trace 19 = .ok (.iconst 0, 1) := by decide +kernel
theorem dX0_trace_20 : decode cX0_trace 20 = .ok (.putfield 44, 3) := by decide +kernel
theorem dX0_trace_23 : decode cX0_trace 23 = .ok (.aload_n 0, 1) := by decide +kernel
theorem dX0_trace_24 : decode cX0_trace 24 = .ok (.getfield 44, 3) := by decide +kernel
theorem dX0_trace_27 : decode cX0_trace 27 = .ok (.aload_n 0, 1) := by decide +kernel
theorem dX0_trace_28 : decode cX0_trace 28 = .ok (.getfield 38, 3) := by decide +kernel
theorem dX0_trace_31 : decode cX0_trace 31 = .ok (.arraylength, 1) := by decide +kernel
theorem dX0_trace_32 : decode cX0_trace 32 = .ok (.if_icmp .ge 117, 3) := by decide +kernel
theorem dX0_trace_35 : decode cX0_trace 35 = .ok (.iload_n 1, 1) := by decide +kernel
theorem dX0_trace_36 : decode cX0_trace 36 = .ok (.bipush 24, 2) := by decide +kernel
theorem dX0_trace_38 : decode cX0_trace 38 = .ok (.imul, 1) := by decide +kernel
theorem dX0_trace_39 : decode cX0_trace 39 = .ok (.aload_n 0, 1) := by decide +kernel
theorem dX0_trace_40 : decode cX0_trace 40 = .ok (.getfield 27, 3) := by decide +kernel
theorem dX0_trace_43 : decode cX0_trace 43 = .ok (.ifnonnull 7, 3) := by decide +kernel
theorem dX0_trace_46 : decode cX0_trace 46 = .ok (.iconst 0, 1) := by decide +kernel
theorem dX0_trace_47 : decode cX0_trace 47 = .ok (.goto 17, 3) := by decide +kernel
theorem dX0_trace_50 : decode cX0_trace 50 = .ok (.aload_n 0, 1) := by decide +kernel
theorem dX0_trace_51 : decode cX0_trace 51 = .ok (.getfield 31, 3) := by decide +kernel
theorem dX0_trace_54 : decode cX0_trace 54 = .ok (.aload_n 0, 1) := by decide +kernel
theorem dX0_trace_55 : decode cX0_trace 55 = .ok (.getfield 44, 3) := by decide +kernel
theorem dX0_trace_58 : decode cX0_trace 58 = .ok (.iadd, 1) := by decide +kernel
theorem dX0_trace_59 : decode cX0_trace 59 = .ok (.bipush 24, 2) := by decide +kernel
theorem dX0_trace_61 : decode cX0_trace 61 = .ok (.invokestatic 65, 3) := by decide +kernel
theorem dX0_trace_64 : decode cX0_trace 64 = .ok (.iadd, 1) := by decide +kernel
theorem dX0_trace_65 : decode cX0_trace 65 = .ok (.istore_n 2, 1) := by decide +kernel
theorem dX0_trace_66 : decode cX0_trace 66 = .ok (.iload_n 2, 1) := by decide +kernel
theorem dX0_trace_67 : decode cX0_trace 67 = .ok (.ifCond .lt 12, 3) := by decide +kernel
theorem dX0_trace_70 : decode cX0_trace 70 = .ok (.iload_n 2, 1) := by decide +kernel
theorem dX0_trace_71 : decode cX0_trace 71 = .ok (.aload_n 0, 1) := by decide +kernel
theorem dX0_trace_72 : decode cX0_trace 72 = .ok (.getfield 41, 3) := by decide +kernel
theorem dX0_trace_75 : decode cX0_trace 75 = .ok (.arraylength, 1) := by decide +kernel
theorem dX0_trace_76 : decode cX0_trace 76 = .ok (.if_icmp .lt 4, 3) := by decide +kernel
theorem dX0_trace_79 : decode cX0_trace 79 = .ok (.return_, 1) := by decide +kernel
theorem dX0_trace_80 : decode cX0_trace 80 = .ok (.aload_n 0, 1) := by decide +kernel
theorem dX0_trace_81 : decode cX0_trace 81 = .ok (.getfield 41, 3) := by decide +kernel
theorem dX0_trace_84 : decode cX0_trace 84 = .ok (.iload_n 2, 1) := by decide +kernel
theorem dX0_trace_85 : decode cX0_trace 85 = .ok (.iaload, 1) := by decide +kernel
theorem dX0_trace_86 : decode cX0_trace 86 = .ok (.iconst (-1), 1) := by decide +kernel
theorem dX0_trace_87 : decode cX0_trace 87 = .ok (.if_icmp .eq 14, 3) := by decide +kernel
theorem dX0_trace_90 : decode cX0_trace 90 = .ok (.aload_n 0, 1) := by decide +kernel
theorem dX0_trace_91 : decode cX0_trace 91 = .ok (.aload_n 0, 1) := by decide +kernel
theorem dX0_trace_92 : decode cX0_trace 92 = .ok (.getfield 41, 3) := by decide +kernel
theorem dX0_trace_95 : decode cX0_trace 95 = .ok (.iload_n 2, 1) := by decide +kernel
theorem dX0_trace_96 : decode cX0_trace 96 = .ok (.iaload, 1) := by decide +kernel
theorem dX0_trace_97 : decode cX0_trace 97 = .ok (.putfield 47, 3) := by decide +kernel
theorem dX0_trace_100 : decode cX0_trace 100 = .ok (.return_, 1) := by decide +kernel
theorem dX0_trace_101 : decode cX0_trace 101 = .ok (.aload_n 0, 1) := by decide +kernel
theorem dX0_trace_102 : decode cX0_trace 102 = .ok (.getfield 41, 3) := by decide +kernel
theorem dX0_trace_105 : decode cX0_trace 105 = .ok (.iload_n 2, 1) := by decide +kernel
theorem dX0_trace_106 : decode cX0_trace 106 = .ok (.aload_n 0, 1) := by decide +kernel
theorem dX0_trace_107 : decode cX0_trace 107 = .ok (.getfield 44, 3) := by decide +kernel
theorem dX0_trace_110 : decode cX0_trace 110 = .ok (.iastore, 1) := by decide +kernel
theorem dX0_trace_111 : decode cX0_trace 111 = .ok (.aload_n 0, 1) := by decide +kernel
theorem dX0_trace_112 : decode cX0_trace 112 = .ok (.getfield 38, 3) := by decide +kernel
theorem dX0_trace_115 : decode cX0_trace 115 = .ok (.aload_n 0, 1) := by decide +kernel
theorem dX0_trace_116 : decode cX0_trace 116 = .ok (.getfield 44, 3) := by decide +kernel
theorem dX0_trace_119 : decode cX0_trace 119 = .ok (.iload_n 1, 1) := by decide +kernel
theorem dX0_trace_120 : decode cX0_trace 120 = .ok (.iastore, 1) := by decide +kernel
theorem dX0_trace_121 : decode cX0_trace 121 = .ok (.aload_n 0, 1) := by decide +kernel
theorem dX0_trace_122 : decode cX0_trace 122 = .ok (.iload_n 1, 1) := by decide +kernel
theorem dX0_trace_123 : decode cX0_trace 123 = .ok (.aload_n 0, 1) := by decide +kernel
theorem dX0_trace_124 : decode cX0_trace 124 = .ok (.getfield 31, 3) := by decide +kernel
theorem dX0_trace_127 : decode cX0_trace 127 = .ok (.aload_n 0, 1) := by decide +kernel
theorem dX0_trace_128 : decode cX0_trace 128 = .ok (.getfield 44, 3) := by decide +kernel
theorem dX0_trace_131 : decode cX0_trace 131 = .ok (.iadd, 1) := by decide +kernel
theorem dX0_trace_132 : decode cX0_trace 132 = .ok (.invokevirtual 85, 3) := by decide +kernel
theorem dX0_trace_135 : decode cX0_trace 135 = .ok (.istore_n 1, 1) := by decide +kernel
theorem dX0_trace_136 : decode cX0_trace 136 = .ok (.aload_n 0, 1) := by decide +kernel
theorem dX0_trace_137 : decode cX0_trace 137 = .ok (.dup, 1) := by decide +kernel
theorem dX0_trace_138 : decode cX0_trace 138 = .ok (.getfield 44, 3) := by decide +kernel
theorem dX0_trace_141 : decode cX0_trace 141 = .ok (.iconst 1, 1) := by decide +kernel
theorem dX0_trace_142 : decode cX0_trace 142 = .ok (.iadd, 1) := by decide +kernel
theorem dX0_trace_143 : decode cX0_trace 143 = .ok (.putfield 44, 3) := by decide +kernel
theorem dX0_trace_146 : decode cX0_trace 146 = .ok (.goto (-123), 3) := by decide +kernel
theorem dX0_trace_149 : decode cX0_trace 149 = .ok (.return_, 1) := by decide +kernel
theorem dX0_placeAfter_0 : decode cX0_placeAfter 0 = .ok (.iload_n 1, 1) := by decide +kernel
theorem dX0_placeAfter_1 : decode cX0_placeAfter 1 = .ok (.aload_n 0, 1) := by decide +kernel
theorem dX0_placeAfter_2 : decode cX0_placeAfter 2 = .ok (.getfield 44, 3) := by decide +kernel
theorem dX0_placeAfter_5 : decode cX0_placeAfter 5 = .ok (.if_icmp .ge 7, 3) := by decide +kernel
theorem dX0_placeAfter_8 : decode cX0_placeAfter 8 = .ok (.iload_n 1, 1) := by decide +kernel
theorem dX0_placeAfter_9 : decode cX0_placeAfter 9 = .ok (.goto 26, 3) := by decide +kernel
theorem dX0_placeAfter_12 : decode cX0_placeAfter 12 = .ok (.aload_n 0, 1) := by decide +kernel
theorem dX0_placeAfter_13 : decode cX0_placeAfter 13 = .ok (.getfield 47, 3) := by decide +kernel
theorem dX0_placeAfter_16 : decode cX0_placeAfter 16 = .ok (.iload_n 1, 1) := by decide +kernel
theorem dX0_placeAfter_17 : decode cX0_placeAfter 17 = .ok (.aload_n 0, 1) := by decide +kernel
theorem dX0_placeAfter_18 : decode cX0_placeAfter 18 = .ok (.getfield 47, 3) := by decide +kernel
theorem dX0_placeAfter_21 : decode cX0_placeAfter 21 = .ok (.isub, 1) := by decide +kernel
theorem dX0_placeAfter_22 : decode cX0_placeAfter 22 = .ok (.aload_n 0, 1) := by decide +kernel
theorem dX0_placeAfter_23 : decode cX0_placeAfter 23 = .ok (.getfield 44, 3) := by decide +kernel
theorem dX0_placeAfter_26 : decode cX0_placeAfter 26 = .ok (.aload_n 0, 1) := by decide +kernel
theorem dX0_placeAfter_27 : decode cX0_placeAfter 27 = .ok (.getfield 47, 3) := by decide +kernel
theorem dX0_placeAfter_30 : decode cX0_placeAfter 30 = .ok (.isub, 1) := by decide +kernel
theorem dX0_placeAfter_31 : decode cX0_placeAfter 31 = .ok (.invokestatic 65, 3) := by decide +kernel
theorem dX0_placeAfter_34 : decode cX0_placeAfter 34 = .ok (.iadd, 1) := by decide +kernel
theorem dX0_placeAfter_35 : decode cX0_placeAfter 35 = .ok (.istore_n 2, 1) := by decide +kernel
theorem dX0_placeAfter_36 : decode cX0_placeAfter 36 = .ok (.iload_n 2, 1) := by decide +kernel
theorem dX0_placeAfter_37 : decode cX0_placeAfter 37 = .ok (.ifCond .lt 21, 3) := by decide +kernel
theorem dX0_placeAfter_40 : decode cX0_placeAfter 40 = .ok (.iload_n 2, 1) := by decide +kernel
theorem dX0_placeAfter_41 : decode cX0_placeAfter 41 = .ok (.aload_n 0, 1) := by decide +kernel
theorem dX0_placeAfter_42 : decode cX0_placeAfter 42 = .ok (.getfield 38, 3) := by decide +kernel
theorem dX0_placeAfter_45 : decode cX0_placeAfter 45 = .ok (.arraylength, 1) := by decide +kernel
theorem dX0_placeAfter_46 : decode cX0_placeAfter 46 = .ok (.if_icmp .ge 12, 3) := by decide +kernel
theorem dX0_placeAfter_49 : decode cX0_placeAfter 49 = .ok (.aload_n 0, 1) := by decide +kernel
theorem dX0_placeAfter_50 : decode cX0_placeAfter 50 = .ok (.getfield 38, 3) := by decide +kernel
theorem dX0_placeAfter_53 : decode cX0_placeAfter 53 = .ok (.iload_n 2, 1) := by decide +kernel
theorem dX0_placeAfter_54 : decode cX0_placeAfter 54 = .ok (.iaload, 1) := by decide +kernel
theorem dX0_placeAfter_55 : decode cX0_placeAfter 55 = .ok (.goto 7, 3) := by decide +kernel
theorem dX0_placeAfter_58 : decode cX0_placeAfter 58 = .ok (.aload_n 0, 1) := by decide +kernel
theorem dX0_placeAfter_59 : decode cX0_placeAfter 59 = .ok (.getfield 15, 3) := by decide +kernel
theorem dX0_placeAfter_62 : decode cX0_placeAfter 62 = .ok (.ireturn, 1) := by decide +kernel
theorem dX0_shownAfter_0 : decode cX0_shownAfter 0 = .ok (.aload_n 0, 1) := by decide +kernel
theorem dX0_shownAfter_1 : decode cX0_shownAfter 1 = .ok (.getfield 23, 3) := by decide +kernel
theorem dX0_shownAfter_4 : decode cX0_shownAfter 4 = .ok (.aload_n 0, 1) := by decide +kernel
theorem dX0_shownAfter_5 : decode cX0_shownAfter 5 = .ok (.iload_n 1, 1) := by decide +kernel
theorem dX0_shownAfter_6 : decode cX0_shownAfter 6 = .ok (.invokevirtual 88, 3) := by decide +kernel
theorem dX0_shownAfter_9 : decode cX0_shownAfter 9 = .ok (.invokevirtual 61, 3) := by decide +kernel
theorem dX0_shownAfter_12 : decode cX0_shownAfter 12 = .ok (.ireturn, 1) := by decide +kernel
theorem dX0_isHomeAfter_0 : decode cX0_isHomeAfter 0 = .ok (.aload_n 0, 1) := by decide +kernel
theorem dX0_isHomeAfter_1 : decode cX0_isHomeAfter 1 = .ok (.iload_n 1, 1) := by decide +kernel
theorem dX0_isHomeAfter_2 : decode cX0_isHomeAfter 2 = .ok (.invokevirtual 88, 3) := by decide +kernel
theorem dX0_isHomeAfter_5 : decode cX0_isHomeAfter 5 = .ok (.aload_n 0, 1) := by decide +kernel
theorem dX0_isHomeAfter_6 : decode cX0_isHomeAfter 6 = .ok (.getfield 15, 3) := by decide +kernel
theorem dX0_isHomeAfter_9 : decode cX0_isHomeAfter 9 = .ok (.if_icmp .ne 7, 3) := by decide +kernel
theorem dX0_isHomeAfter_12 : decode cX0_isHomeAfter 12 = .ok (.iconst 1, 1) := by decide +kernel
theorem dX0_isHomeAfter_13 : decode cX0_isHomeAfter 13 = .ok (.goto 4, 3) := by decide +kernel
theorem dX0_isHomeAfter_16 : decode cX0_isHomeAfter 16 = .ok (.iconst 0, 1) := by decide +kernel
theorem dX0_isHomeAfter_17 : decode cX0_isHomeAfter 17 = .ok (.ireturn, 1) := by decide +kernel
theorem dX0_isStillBy_0 : decode cX0_isStillBy 0 = .ok (.iconst 1, 1) := by decide +kernel
theorem dX0_isStillBy_1 : decode cX0_isStillBy 1 = .ok (.istore_n 2, 1) := by decide +kernel
theorem dX0_isStillBy_2 : decode cX0_isStillBy 2 = .ok (.iconst 1, 1) := by decide +kernel
theorem dX0_isStillBy_3 : decode cX0_isStillBy 3 = .ok (.istore_n 3, 1) := by decide +kernel
theorem dX0_isStillBy_4 : decode cX0_isStillBy 4 = .ok (.iload_n 3, 1) := by decide +kernel
theorem dX0_isStillBy_5 : decode cX0_isStillBy 5 = .ok (.bipush 6, 2) := by decide +kernel
theorem dX0_isStillBy_7 : decode cX0_isStillBy 7 = .ok (.if_icmp .gt 21, 3) := by decide +kernel
theorem dX0_isStillBy_10 : decode cX0_isStillBy 10 = .ok (.iload_n 2, 1) := by decide +kernel
theorem dX0_isStillBy_11 : decode cX0_isStillBy 11 = .ok (.ifCond .eq 17, 3) := by decide +kernel
theorem dX0_isStillBy_14 : decode cX0_isStillBy 14 = .ok (.aload_n 0, 1) := by decide +kernel
theorem dX0_isStillBy_15 : decode cX0_isStillBy 15 = .ok (.iload_n 3, 1) := by decide +kernel
theorem dX0_isStillBy_16 : decode cX0_isStillBy 16 = .ok (.iload_n 1, 1) := by decide +kernel
theorem dX0_isStillBy_17 : decode cX0_isStillBy 17 = .ok (.imul, 1) := by decide +kernel
theorem dX0_isStillBy_18 : decode cX0_isStillBy 18 = .ok (.invokevirtual 91, 3) := by decide +kernel
theorem dX0_isStillBy_21 : decode cX0_isStillBy 21 = .ok (.istore_n 2, 1) := by decide +kernel
theorem dX0_isStillBy_22 : decode cX0_isStillBy 22 = .ok (.iinc 3 1, 3) := by decide +kernel
theorem dX0_isStillBy_25 : decode cX0_isStillBy 25 = .ok (.goto (-21), 3) := by decide +kernel
theorem dX0_isStillBy_28 : decode cX0_isStillBy 28 = .ok (.iload_n 2, 1) := by decide +kernel
theorem dX0_isStillBy_29 : decode cX0_isStillBy 29 = .ok (.ireturn, 1) := by decide +kernel
theorem dX0_partsShowing_0 : decode cX0_partsShowing 0 = .ok (.aload_n 0, 1) := by decide +kernel
theorem dX0_partsShowing_1 : decode cX0_partsShowing 1 = .ok (.ldc2_w 95, 3) := by decide +kernel
theorem dX0_partsShowing_4 : decode cX0_partsShowing 4 = .ok (.aload_n 0, 1) := by decide +kernel
theorem dX0_partsShowing_5 : decode cX0_partsShowing 5 = .ok (.getfield 15, 3) := by decide +kernel
theorem dX0_partsShowing_8 : decode cX0_partsShowing 8 = .ok (.iconst 0, 1) := by decide +kernel
theorem dX0_partsShowing_9 : decode cX0_partsShowing 9 = .ok (.iload_n 1, 1) := by decide +kernel
theorem dX0_partsShowing_10 : decode cX0_partsShowing 10 = .ok (.bipush 8, 2) := by decide +kernel
theorem dX0_partsShowing_12 : decode cX0_partsShowing 12 = .ok (.invokestatic 97, 3) := by decide +kernel
theorem dX0_partsShowing_15 : decode cX0_partsShowing 15 = .ok (.iload_n 2, 1) := by decide +kernel
theorem dX0_partsShowing_16 : decode cX0_partsShowing 16 = .ok (.iload_n 3, 1) := by decide +kernel
theorem dX0_partsShowing_17 : decode cX0_partsShowing 17 = .ok (.invokevirtual 102, 3) := by decide +kernel
theorem dX0_partsShowing_20 : decode cX0_partsShowing 20 = .ok (.l2i, 1) := by decide +kernel
theorem dX0_partsShowing_21 : decode cX0_partsShowing 21 = .ok (.ireturn, 1) := by decide +kernel
theorem dX0_showingOf_0 : decode cX0_showingOf 0 = .ok (.iload 4, 2) := by decide +kernel
theorem dX0_showingOf_2 : decode cX0_showingOf 2 = .ok (.iload 5, 2) := by decide +kernel
theorem dX0_showingOf_4 : decode cX0_showingOf 4 = .ok (.if_icmp .lt 22, 3) := by decide +kernel
theorem dX0_showingOf_7 : decode cX0_showingOf 7 = .ok (.aload_n 0, 1) := by decide +kernel
theorem dX0_showingOf_8 : decode cX0_showingOf 8 = .ok (.getfield 23, 3) := by decide +kernel
theorem dX0_showingOf_11 : decode cX0_showingOf 11 = .ok (.iload_n 3, 1) := by decide +kernel
theorem dX0_showingOf_12 : decode cX0_showingOf 12 = .ok (.invokevirtual 61, 3) := by decide +kernel
theorem dX0_showingOf_15 : decode cX0_showingOf 15 = .ok (.iload 7, 2) := by decide +kernel
theorem dX0_showingOf_17 : decode cX0_showingOf 17 = .ok (.if_icmp .ne 7, 3) := by decide +kernel
theorem dX0_showingOf_20 : decode cX0_showingOf 20 = .ok (.lload_n 1, 1) := by decide +kernel
theorem dX0_showingOf_21 : decode cX0_showingOf 21 = .ok (.goto 4, 3) := by decide +kernel
theorem dX0_showingOf_24 : decode cX0_showingOf 24 = .ok (.lconst 0, 1) := by decide +kernel
theorem dX0_showingOf_25 : decode cX0_showingOf 25 = .ok (.lreturn, 1) := by decide +kernel
theorem dX0_showingOf_26 : decode cX0_showingOf 26 = .ok (.lload_n 1, 1) := by decide +kernel
theorem dX0_showingOf_27 : decode cX0_showingOf 27 = .ok (.iload 6, 2) := by decide +kernel
theorem dX0_showingOf_29 : decode cX0_showingOf 29 = .ok (.i2l, 1) := by decide +kernel
theorem dX0_showingOf_30 : decode cX0_showingOf 30 = .ok (.lmul, 1) := by decide +kernel
theorem dX0_showingOf_31 : decode cX0_showingOf 31 = .ok (.ldc2_w 106, 3) := by decide +kernel
theorem dX0_showingOf_34 : decode cX0_showingOf 34 = .ok (.ldiv, 1) := by decide +kernel
theorem dX0_showingOf_35 : decode cX0_showingOf 35 = .ok (.lstore 8, 2) := by decide +kernel
theorem dX0_showingOf_37 : decode cX0_showingOf 37 = .ok (.aload_n 0, 1) := by decide +kernel
theorem dX0_showingOf_38 : decode cX0_showingOf 38 = .ok (.iload_n 3, 1) := by decide +kernel
theorem dX0_showingOf_39 : decode cX0_showingOf 39 = .ok (.aload_n 0, 1) := by decide +kernel
theorem dX0_showingOf_40 : decode cX0_showingOf 40 = .ok (.getfield 31, 3) := by decide +kernel
theorem dX0_showingOf_43 : decode cX0_showingOf 43 = .ok (.iload 4, 2) := by decide +kernel
theorem dX0_showingOf_45 : decode cX0_showingOf 45 = .ok (.iadd, 1) := by decide +kernel
theorem dX0_showingOf_46 : decode cX0_showingOf 46 = .ok (.invokevirtual 85, 3) := by decide +kernel
theorem dX0_showingOf_49 : decode cX0_showingOf 49 = .ok (.istore 10, 2) := by decide +kernel
theorem dX0_showingOf_51 : decode cX0_showingOf 51 = .ok (.aload_n 0, 1) := by decide +kernel
theorem dX0_showingOf_52 : decode cX0_showingOf 52 = .ok (.lload 8, 2) := by decide +kernel
theorem dX0_showingOf_54 : decode cX0_showingOf 54 = .ok (.iload_n 3, 1) := by decide +kernel
theorem dX0_showingOf_55 : decode cX0_showingOf 55 = .ok (.iload 4, 2) := by decide +kernel
theorem dX0_showingOf_57 : decode cX0_showingOf 57 = .ok (.iconst 1, 1) := by decide +kernel
theorem dX0_showingOf_58 : decode cX0_showingOf 58 = .ok (.iadd, 1) := by decide +kernel
theorem dX0_showingOf_59 : decode cX0_showingOf 59 = .ok (.iload 5, 2) := by decide +kernel
theorem dX0_showingOf_61 : decode cX0_showingOf 61 = .ok (.iload 6, 2) := by decide +kernel
theorem dX0_showingOf_63 : decode cX0_showingOf 63 = .ok (.iload 7, 2) := by decide +kernel
theorem dX0_showingOf_65 : decode cX0_showingOf 65 = .ok (.invokevirtual 102, 3) := by decide +kernel
theorem dX0_showingOf_68 : decode cX0_showingOf 68 = .ok (.aload_n 0, 1) := by decide +kernel
theorem dX0_showingOf_69 : decode cX0_showingOf 69 = .ok (.lload_n 1, 1) := by decide +kernel
theorem dX0_showingOf_70 : decode cX0_showingOf 70 = .ok (.lload 8, 2) := by decide +kernel
theorem dX0_showingOf_72 : decode cX0_showingOf 72 = .ok (.lsub, 1) := by decide +kernel
theorem dX0_showingOf_73 : decode cX0_showingOf 73 = .ok (.iload 10, 2) := by decide +kernel
theorem dX0_showingOf_75 : decode cX0_showingOf 75 = .ok (.iload 4, 2) := by decide +kernel
theorem dX0_showingOf_77 : decode cX0_showingOf 77 = .ok (.iconst 1, 1) := by decide +kernel
theorem dX0_showingOf_78 : decode cX0_showingOf 78 = .ok (.iadd, 1) := by decide +kernel
theorem dX0_showingOf_79 : decode cX0_showingOf 79 = .ok (.iload 5, 2) := by decide +kernel
theorem dX0_showingOf_81 : decode cX0_showingOf 81 = .ok (.iload 6, 2) := by decide +kernel
theorem dX0_showingOf_83 : decode cX0_showingOf 83 = .ok (.iload 7, 2) := by decide +kernel
theorem dX0_showingOf_85 : decode cX0_showingOf 85 = .ok (.invokevirtual 102, 3) := by decide +kernel
theorem dX0_showingOf_88 : decode cX0_showingOf 88 = .ok (.ladd, 1) := by decide +kernel
theorem dX0_showingOf_89 : decode cX0_showingOf 89 = .ok (.lreturn, 1) := by decide +kernel
theorem dX1_init_0 : decode cX1_init 0 = .ok (.aload_n 0, 1) := by decide +kernel
theorem dX1_init_1 : decode cX1_init 1 = .ok (.invokespecial 3, 3) := by decide +kernel
theorem dX1_init_4 : decode cX1_init 4 = .ok (.aload_n 0, 1) := by decide +kernel
theorem dX1_init_5 : decode cX1_init 5 = .ok (.iconst 3, 1) := by decide +kernel
theorem dX1_init_6 : decode cX1_init 6 = .ok (.newarray .int, 2) := by decide +kernel
theorem dX1_init_8 : decode cX1_init 8 = .ok (.putfield 9, 3) := by decide +kernel
theorem dX1_init_11 : decode cX1_init 11 = .ok (.aload_n 0, 1) := by decide +kernel
theorem dX1_init_12 : decode cX1_init 12 = .ok (.iconst 0, 1) := by decide +kernel
theorem dX1_init_13 : decode cX1_init 13 = .ok (.putfield 15, 3) := by decide +kernel
theorem dX1_init_16 : decode cX1_init 16 = .ok (.aload_n 0, 1) := by decide +kernel
theorem dX1_init_17 : decode cX1_init 17 = .ok (.bipush 16, 2) := by decide +kernel
theorem dX1_init_19 : decode cX1_init 19 = .ok (.newarray .int, 2) := by decide +kernel
theorem dX1_init_21 : decode cX1_init 21 = .ok (.putfield 19, 3) := by decide +kernel
theorem dX1_init_24 : decode cX1_init 24 = .ok (.aload_n 0, 1) := by decide +kernel
theorem dX1_init_25 : decode cX1_init 25 = .ok (.iconst 0, 1) := by decide +kernel
theorem dX1_init_26 : decode cX1_init 26 = .ok (.putfield 22, 3) := by decide +kernel
theorem dX1_init_29 : decode cX1_init 29 = .ok (.return_, 1) := by decide +kernel
theorem dX1_isWhole_0 : decode cX1_isWhole 0 = .ok (.getstatic 26, 3) := by decide +kernel
theorem dX1_isWhole_3 : decode cX1_isWhole 3 = .ok (.iconst 0, 1) := by decide +kernel
theorem dX1_isWhole_4 : decode cX1_isWhole 4 = .ok (.aload_n 0, 1) := by decide +kernel
theorem dX1_isWhole_5 : decode cX1_isWhole 5 = .ok (.getfield 9, 3) := by decide +kernel
theorem dX1_isWhole_8 : decode cX1_isWhole 8 = .ok (.iconst 0, 1) := by decide +kernel
theorem dX1_isWhole_9 : decode cX1_isWhole 9 = .ok (.iconst 3, 1) := by decide +kernel
theorem dX1_isWhole_10 : decode cX1_isWhole 10 = .ok (.invokestatic 29, 3) := by decide +kernel
theorem dX1_isWhole_13 : decode cX1_isWhole 13 = .ok (.aload_n 0, 1) := by decide +kernel
theorem dX1_isWhole_14 : decode cX1_isWhole 14 = .ok (.iconst 0, 1) := by decide +kernel
theorem dX1_isWhole_15 : decode cX1_isWhole 15 = .ok (.putfield 15, 3) := by decide +kernel
theorem dX1_isWhole_18 : decode cX1_isWhole 18 = .ok (.aload_n 0, 1) := by decide +kernel
theorem dX1_isWhole_19 : decode cX1_isWhole 19 = .ok (.iconst 0, 1) := by decide +kernel
theorem dX1_isWhole_20 : decode cX1_isWhole 20 = .ok (.putfield 22, 3) := by decide +kernel
theorem dX1_isWhole_23 : decode cX1_isWhole 23 = .ok (.iconst 0, 1) := by decide +kernel
theorem dX1_isWhole_24 : decode cX1_isWhole 24 = .ok (.istore_n 1, 1) := by decide +kernel
theorem dX1_isWhole_25 : decode cX1_isWhole 25 = .ok (.iload_n 1, 1) := by decide +kernel
theorem dX1_isWhole_26 : decode cX1_isWhole 26 = .ok (.sipush 240, 3) := by decide +kernel
theorem dX1_isWhole_29 : decode cX1_isWhole 29 = .ok (.if_icmp .gt 48, 3) := by decide +kernel
theorem dX1_isWhole_32 : decode cX1_isWhole 32 = .ok (.aload_n 0, 1) := by decide +kernel
theorem dX1_isWhole_33 : decode cX1_isWhole 33 = .ok (.invokevirtual 35, 3) := by decide +kernel
theorem dX1_isWhole_36 : decode cX1_isWhole 36 = .ok (.ifCond .ne 5, 3) := by decide +kernel
theorem dX1_isWhole_39 : decode cX1_isWhole 39 = .ok (.iconst 0, 1) := by decide +kernel
theorem dX1_isWhole_40 : decode cX1_isWhole 40 = .ok (.ireturn, 1) := by decide +kernel
theorem dX1_isWhole_41 : decode cX1_isWhole 41 = .ok (.aload_n 0, 1) := by decide +kernel
theorem dX1_isWhole_42 : decode cX1_isWhole 42 = .ok (.bipush 59, 2) := by decide +kernel
theorem dX1_isWhole_44 : decode cX1_isWhole 44 = .ok (.invokevirtual 39, 3) := by decide +kernel
theorem dX1_isWhole_47 : decode cX1_isWhole 47 = .ok (.ifCond .ne 24, 3) := by decide +kernel
theorem dX1_isWhole_50 : decode cX1_isWhole 50 = .ok (.aload_n 0, 1) := by decide +kernel
theorem dX1_isWhole_51 : decode cX1_isWhole 51 = .ok (.invokevirtual 43, 3) := by decide +kernel
theorem dX1_isWhole_54 : decode cX1_isWhole 54 = .ok (.iconst (-1), 1) := by decide +kernel
theorem dX1_isWhole_55 : decode cX1_isWhole 55 = .ok (.if_icmp .ne 14, 3) := by decide +kernel
theorem dX1_isWhole_58 : decode cX1_isWhole 58 = .ok (.aload_n 0, 1) := by decide +kernel
theorem dX1_isWhole_59 : decode cX1_isWhole 59 = .ok (.getfield 22, 3) := by decide +kernel
theorem dX1_isWhole_62 : decode cX1_isWhole 62 = .ok (.ifCond .le 7, 3) := by decide +kernel
theorem dX1_isWhole_65 : decode cX1_isWhole 65 = .ok (.iconst 1, 1) := by decide +kernel
theorem dX1_isWhole_66 : decode cX1_isWhole 66 = .ok (.goto 4, 3) := by decide +kernel
theorem dX1_isWhole_69 : decode cX1_isWhole 69 = .ok (.iconst 0, 1) := by decide +kernel
theorem dX1_isWhole_70 : decode cX1_isWhole 70 = .ok (.ireturn, 1) := by decide +kernel
theorem dX1_isWhole_71 : decode cX1_isWhole 71 = .ok (.iinc 1 1, 3) := by decide +kernel
theorem dX1_isWhole_74 : decode cX1_isWhole 74 = .ok (.goto (-49), 3) := by decide +kernel
theorem dX1_isWhole_77 : decode cX1_isWhole 77 = .ok (.iconst 0, 1) := by decide +kernel
theorem dX1_isWhole_78 : decode cX1_isWhole 78 = .ok (.ireturn, 1) := by decide +kernel
theorem dX1_isClause_0 : decode cX1_isClause 0 = .ok (.aload_n 0, 1) := by decide +kernel
theorem dX1_isClause_1 : decode cX1_isClause 1 = .ok (.getfield 15, 3) := by decide +kernel
theorem dX1_isClause_4 : decode cX1_isClause 4 = .ok (.ifCond .ne 35, 3) := by decide +kernel
theorem dX1_isClause_7 : decode cX1_isClause 7 = .ok (.aload_n 0, 1) := by decide +kernel
theorem dX1_isClause_8 : decode cX1_isClause 8 = .ok (.bipush 115, 2) := by decide +kernel
theorem dX1_isClause_10 : decode cX1_isClause 10 = .ok (.invokevirtual 39, 3) := by decide +kernel
theorem dX1_isClause_13 : decode cX1_isClause 13 = .ok (.ifCond .eq 26, 3) := by decide +kernel
theorem dX1_isClause_16 : decode cX1_isClause 16 = .ok (.aload_n 0, 1) := by decide +kernel
theorem dX1_isClause_17 : decode cX1_isClause 17 = .ok (.iconst 1, 1) := by decide +kernel
theorem dX1_isClause_18 : decode cX1_isClause 18 = .ok (.putfield 15, 3) := by decide +kernel
theorem dX1_isClause_21 : decode cX1_isClause 21 = .ok (.aload_n 0, 1) := by decide +kernel
theorem dX1_isClause_22 : decode cX1_isClause 22 = .ok (.ldc 47, 2) := by decide +kernel
theorem dX1_isClause_24 : decode cX1_isClause 24 = .ok (.getstatic 49, 3) := by decide +kernel
theorem dX1_isClause_27 : decode cX1_isClause 27 = .ok (.getstatic 52, 3) := by decide +kernel
theorem dX1_isClause_30 : decode cX1_isClause 30 = .ok (.aload_n 0, 1) := by decide +kernel
theorem dX1_isClause_31 : decode cX1_isClause 31 = .ok (.getfield 9, 3) := by decide +kernel
theorem dX1_isClause_34 : decode cX1_isClause 34 = .ok (.iconst 0, 1) := by decide +kernel
theorem dX1_isClause_35 : decode cX1_isClause 35 = .ok (.invokevirtual 55, 3) := by decide +kernel
theorem dX1_isClause_38 : decode cX1_isClause 38 = .ok (.ireturn, 1) := by decide +kernel
theorem dX1_isClause_39 : decode cX1_isClause 39 = .ok (.aload_n 0, 1) := by decide +kernel
theorem dX1_isClause_40 : decode cX1_isClause 40 = .ok (.getfield 22, 3) := by decide +kernel
theorem dX1_isClause_43 : decode cX1_isClause 43 = .ok (.iconst 4, 1) := by decide +kernel
theorem dX1_isClause_44 : decode cX1_isClause 44 = .ok (.if_icmp .ge 60, 3) := by decide +kernel
theorem dX1_isClause_47 : decode cX1_isClause 47 = .ok (.aload_n 0, 1) := by decide +kernel
theorem dX1_isClause_48 : decode cX1_isClause 48 = .ok (.bipush 119, 2) := by decide +kernel
theorem dX1_isClause_50 : decode cX1_isClause 50 = .ok (.invokevirtual 39, 3) := by decide +kernel
theorem dX1_isClause_53 : decode cX1_isClause 53 = .ok (.ifCond .eq 51, 3) := by decide +kernel
theorem dX1_isClause_56 : decode cX1_isClause 56 = .ok (.iconst 4, 1) := by decide +kernel
theorem dX1_isClause_57 : decode cX1_isClause 57 = .ok (.aload_n 0, 1) := by decide +kernel
theorem dX1_isClause_58 : decode cX1_isClause 58 = .ok (.getfield 22, 3) := by decide +kernel
theorem dX1_isClause_61 : decode cX1_isClause 61 = .ok (.imul, 1) := by decide +kernel
theorem dX1_isClause_62 : decode cX1_isClause 62 = .ok (.istore_n 1, 1) := by decide +kernel
theorem dX1_isClause_63 : decode cX1_isClause 63 = .ok (.aload_n 0, 1) := by decide +kernel
theorem dX1_isClause_64 : decode cX1_isClause 64 = .ok (.dup, 1) := by decide +kernel
theorem dX1_isClause_65 : decode cX1_isClause 65 = .ok (.getfield 22, 3) := by decide +kernel
theorem dX1_isClause_68 : decode cX1_isClause 68 = .ok (.iconst 1, 1) := by decide +kernel
theorem dX1_isClause_69 : decode cX1_isClause 69 = .ok (.iadd, 1) := by decide +kernel
theorem dX1_isClause_70 : decode cX1_isClause 70 = .ok (.putfield 22, 3) := by decide +kernel
theorem dX1_isClause_73 : decode cX1_isClause 73 = .ok (.getstatic 59, 3) := by decide +kernel
theorem dX1_isClause_76 : decode cX1_isClause 76 = .ok (.iconst 0, 1) := by decide +kernel
theorem dX1_isClause_77 : decode cX1_isClause 77 = .ok (.aload_n 0, 1) := by decide +kernel
theorem dX1_isClause_78 : decode cX1_isClause 78 = .ok (.getfield 19, 3) := by decide +kernel
theorem dX1_isClause_81 : decode cX1_isClause 81 = .ok (.iload_n 1, 1) := by decide +kernel
theorem dX1_isClause_82 : decode cX1_isClause 82 = .ok (.iconst 4, 1) := by decide +kernel
theorem dX1_isClause_83 : decode cX1_isClause 83 = .ok (.invokestatic 29, 3) := by decide +kernel
theorem dX1_isClause_86 : decode cX1_isClause 86 = .ok (.aload_n 0, 1) := by decide +kernel
theorem dX1_isClause_87 : decode cX1_isClause 87 = .ok (.ldc 62, 2) := by decide +kernel
theorem dX1_isClause_89 : decode cX1_isClause 89 = .ok (.getstatic 64, 3) := by decide +kernel
theorem dX1_isClause_92 : decode cX1_isClause 92 = .ok (.getstatic 67, 3) := by decide +kernel
theorem dX1_isClause_95 : decode cX1_isClause 95 = .ok (.aload_n 0, 1) := by decide +kernel
theorem dX1_isClause_96 : decode cX1_isClause 96 = .ok (.getfield 19, 3) := by decide +kernel
theorem dX1_isClause_99 : decode cX1_isClause 99 = .ok (.iload_n 1, 1) := by decide +kernel
theorem dX1_isClause_100 : decode cX1_isClause 100 = .ok (.invokevirtual 55, 3) := by decide +kernel
theorem dX1_isClause_103 : decode cX1_isClause 103 = .ok (.ireturn, 1) := by decide +kernel
theorem dX1_isClause_104 : decode cX1_isClause 104 = .ok (.aload_n 0, 1) := by decide +kernel
theorem dX1_isClause_105 : decode cX1_isClause 105 = .ok (.invokevirtual 43, 3) := by decide +kernel
theorem dX1_isClause_108 : decode cX1_isClause 108 = .ok (.pop, 1) := by decide +kernel
theorem dX1_isClause_109 : decode cX1_isClause 109 = .ok (.iconst 0, 1) := by decide +kernel
theorem dX1_isClause_110 : decode cX1_isClause 110 = .ok (.ireturn, 1) := by decide +kernel
theorem dX1_areItems_0 : decode cX1_areItems 0 = .ok (.iconst 0, 1) := by decide +kernel
theorem dX1_areItems_1 : decode cX1_areItems 1 = .ok (.istore 6, 2) := by decide +kernel
theorem dX1_areItems_3 : decode cX1_areItems 3 = .ok (.iconst 0, 1) := by decide +kernel
theorem dX1_areItems_4 : decode cX1_areItems 4 = .ok (.istore 7, 2) := by decide +kernel
theorem dX1_areItems_6 : decode cX1_areItems 6 = .ok (.iload 7, 2) := by decide +kernel
theorem dX1_areItems_8 : decode cX1_areItems 8 = .ok (.aload_n 1, 1) := by decide +kernel
theorem dX1_areItems_9 : decode cX1_areItems 9 = .ok (.invokevirtual 70, 3) := by decide +kernel
theorem dX1_areItems_12 : decode cX1_areItems 12 = .ok (.if_icmp .gt 120, 3) := by decide +kernel
theorem dX1_areItems_15 : decode cX1_areItems 15 = .ok (.aload_n 1, 1) := by decide +kernel
theorem dX1_areItems_16 : decode cX1_areItems 16 = .ok (.aload_n 0, 1) := by decide +kernel
theorem dX1_areItems_17 : decode cX1_areItems 17 = .ok (.invokevirtual 43, 3) := by decide +kernel
theorem dX1_areItems_20 : decode cX1_areItems 20 = .ok (.invokestatic 75, 3) := by decide +kernel
theorem dX1_areItems_23 : decode cX1_areItems 23 = .ok (.istore 8, 2) := by decide +kernel
theorem dX1_areItems_25 : decode cX1_areItems 25 = .ok (.iload 8, 2) := by decide +kernel
theorem dX1_areItems_27 : decode cX1_areItems 27 = .ok (.ifCond .lt 17, 3) := by decide +kernel
theorem dX1_areItems_30 : decode cX1_areItems 30 = .ok (.iload 8, 2) := by decide +kernel
theorem dX1_areItems_32 : decode cX1_areItems 32 = .ok (.aload_n 2, 1) := by decide +kernel
theorem dX1_areItems_33 : decode cX1_areItems 33 = .ok (.arraylength, 1) := by decide +kernel
theorem dX1_areItems_34 : decode cX1_areItems 34 = .ok (.if_icmp .ge 10, 3) := by decide +kernel
theorem dX1_areItems_37 : decode cX1_areItems 37 = .ok (.iload 8, 2) := by decide +kernel
theorem dX1_areItems_39 : decode cX1_areItems 39 = .ok (.aload_n 3, 1) := by decide +kernel
theorem dX1_areItems_40 : decode cX1_areItems 40 = .ok (.arraylength, 1) := by decide +kernel
theorem dX1_areItems_41 : decode cX1_areItems 41 = .ok (.if_icmp .lt 5, 3) := by decide +kernel
theorem dX1_areItems_44 : decode cX1_areItems 44 = .ok (.iconst 1, 1) := by decide +kernel
theorem dX1_areItems_45 : decode cX1_areItems 45 = .ok (.ireturn, 1) := by decide +kernel
theorem dX1_areItems_46 : decode cX1_areItems 46 = .ok (.iload 6, 2) := by decide +kernel
theorem dX1_areItems_48 : decode cX1_areItems 48 = .ok (.iload 8, 2) := by decide +kernel
theorem dX1_areItems_50 : decode cX1_areItems 50 = .ok (.ishr, 1) := by decide +kernel
theorem dX1_areItems_51 : decode cX1_areItems 51 = .ok (.iconst 1, 1) := by decide +kernel
theorem dX1_areItems_52 : decode cX1_areItems 52 = .ok (.iand, 1) := by decide +kernel
theorem dX1_areItems_53 : decode cX1_areItems 53 = .ok (.ifCond .eq 5, 3) := by decide +kernel
theorem dX1_areItems_56 : decode cX1_areItems 56 = .ok (.iconst 0, 1) := by decide +kernel
theorem dX1_areItems_57 : decode cX1_areItems 57 = .ok (.ireturn, 1) := by decide +kernel
theorem dX1_areItems_58 : decode cX1_areItems 58 = .ok (.iload 6, 2) := by decide +kernel
theorem dX1_areItems_60 : decode cX1_areItems 60 = .ok (.iconst 1, 1) := by decide +kernel
theorem dX1_areItems_61 : decode cX1_areItems 61 = .ok (.iload 8, 2) := by decide +kernel
theorem dX1_areItems_63 : decode cX1_areItems 63 = .ok (.ishl, 1) := by decide +kernel
theorem dX1_areItems_64 : decode cX1_areItems 64 = .ok (.ior, 1) := by decide +kernel
theorem dX1_areItems_65 : decode cX1_areItems 65 = .ok (.istore 6, 2) := by decide +kernel
theorem dX1_areItems_67 : decode cX1_areItems 67 = .ok (.aload_n 0, 1) := by decide +kernel
theorem dX1_areItems_68 : decode cX1_areItems 68 = .ok (.dup, 1) := by decide +kernel
theorem dX1_areItems_69 : decode cX1_areItems 69 = .ok (.getfield 79, 3) := by decide +kernel
theorem dX1_areItems_72 : decode cX1_areItems 72 = .ok (.iconst 1, 1) := by decide +kernel
theorem dX1_areItems_73 : decode cX1_areItems 73 = .ok (.iadd, 1) := by decide +kernel
theorem dX1_areItems_74 : decode cX1_areItems 74 = .ok (.putfield 79, 3) := by decide +kernel
theorem dX1_areItems_77 : decode cX1_areItems 77 = .ok (.aload_n 0, 1) := by decide +kernel
theorem dX1_areItems_78 : decode cX1_areItems 78 = .ok (.invokevirtual 43, 3) := by decide +kernel
theorem dX1_areItems_81 : decode cX1_areItems 81 = .ok (.pop, 1) := by decide +kernel
theorem dX1_areItems_82 : decode cX1_areItems 82 = .ok (.aload_n 0, 1) := by decide +kernel
theorem dX1_areItems_83 : decode cX1_areItems 83 = .ok (.iconst 2, 1) := by decide +kernel
theorem dX1_areItems_84 : decode cX1_areItems 84 = .ok (.aload_n 2, 1) := by decide +kernel
theorem dX1_areItems_85 : decode cX1_areItems 85 = .ok (.iload 8, 2) := by decide +kernel
theorem dX1_areItems_87 : decode cX1_areItems 87 = .ok (.iaload, 1) := by decide +kernel
theorem dX1_areItems_88 : decode cX1_areItems 88 = .ok (.aload_n 3, 1) := by decide +kernel
theorem dX1_areItems_89 : decode cX1_areItems 89 = .ok (.iload 8, 2) := by decide +kernel
theorem dX1_areItems_91 : decode cX1_areItems 91 = .ok (.iaload, 1) := by decide +kernel
theorem dX1_areItems_92 : decode cX1_areItems 92 = .ok (.invokevirtual 82, 3) := by decide +kernel
theorem dX1_areItems_95 : decode cX1_areItems 95 = .ok (.istore 9, 2) := by decide +kernel
theorem dX1_areItems_97 : decode cX1_areItems 97 = .ok (.iload 9, 2) := by decide +kernel
theorem dX1_areItems_99 : decode cX1_areItems 99 = .ok (.iconst (-1), 1) := by decide +kernel
theorem dX1_areItems_100 : decode cX1_areItems 100 = .ok (.if_icmp .eq 14, 3) := by decide +kernel
theorem dX1_areItems_103 : decode cX1_areItems 103 = .ok (.iload 5, 2) := by decide +kernel
theorem dX1_areItems_105 : decode cX1_areItems 105 = .ok (.iload 8, 2) := by decide +kernel
theorem dX1_areItems_107 : decode cX1_areItems 107 = .ok (.iadd, 1) := by decide +kernel
theorem dX1_areItems_108 : decode cX1_areItems 108 = .ok (.aload 4, 2) := by decide +kernel
theorem dX1_areItems_110 : decode cX1_areItems 110 = .ok (.arraylength, 1) := by decide +kernel
theorem dX1_areItems_111 : decode cX1_areItems 111 = .ok (.if_icmp .lt 5, 3) := by decide +kernel
theorem dX1_areItems_114 : decode cX1_areItems 114 = .ok (.iconst 0, 1) := by decide +kernel
theorem dX1_areItems_115 : decode cX1_areItems 115 = .ok (.ireturn, 1) := by decide +kernel
theorem dX1_areItems_116 : decode cX1_areItems 116 = .ok (.aload 4, 2) := by decide +kernel
theorem dX1_areItems_118 : decode cX1_areItems 118 = .ok (.iload 5, 2) := by decide +kernel
theorem dX1_areItems_120 : decode cX1_areItems 120 = .ok (.iload 8, 2) := by decide +kernel
theorem dX1_areItems_122 : decode cX1_areItems 122 = .ok (.iadd, 1) := by decide +kernel
theorem dX1_areItems_123 : decode cX1_areItems 123 = .ok (.iload 9, 2) := by decide +kernel
theorem dX1_areItems_125 : decode cX1_areItems 125 = .ok (.iastore, 1) := by decide +kernel
theorem dX1_areItems_126 : decode cX1_areItems 126 = .ok (.iinc 7 1, 3) := by decide +kernel
theorem dX1_areItems_129 : decode cX1_areItems 129 = .ok (.goto (-123), 3) := by decide +kernel
theorem dX1_areItems_132 : decode cX1_areItems 132 = .ok (.iconst 0, 1) := by decide +kernel
theorem dX1_areItems_133 : decode cX1_areItems 133 = .ok (.ireturn, 1) := by decide +kernel
theorem dX1_tell_0 : decode cX1_tell 0 = .ok (.aload_n 1, 1) := by decide +kernel
theorem dX1_tell_1 : decode cX1_tell 1 = .ok (.aload_n 0, 1) := by decide +kernel
theorem dX1_tell_2 : decode cX1_tell 2 = .ok (.getfield 9, 3) := by decide +kernel
theorem dX1_tell_5 : decode cX1_tell 5 = .ok (.iconst 0, 1) := by decide +kernel
theorem dX1_tell_6 : decode cX1_tell 6 = .ok (.iaload, 1) := by decide +kernel
theorem dX1_tell_7 : decode cX1_tell 7 = .ok (.putfield 86, 3) := by decide +kernel
theorem dX1_tell_10 : decode cX1_tell 10 = .ok (.aload_n 1, 1) := by decide +kernel
theorem dX1_tell_11 : decode cX1_tell 11 = .ok (.aload_n 0, 1) := by decide +kernel
theorem dX1_tell_12 : decode cX1_tell 12 = .ok (.getfield 9, 3) := by decide +kernel
theorem dX1_tell_15 : decode cX1_tell 15 = .ok (.iconst 1, 1) := by decide +kernel
theorem dX1_tell_16 : decode cX1_tell 16 = .ok (.iaload, 1) := by decide +kernel
theorem dX1_tell_17 : decode cX1_tell 17 = .ok (.putfield 91, 3) := by decide +kernel
theorem dX1_tell_20 : decode cX1_tell 20 = .ok (.aload_n 1, 1) := by decide +kernel
theorem dX1_tell_21 : decode cX1_tell 21 = .ok (.aload_n 0, 1) := by decide +kernel
theorem dX1_tell_22 : decode cX1_tell 22 = .ok (.getfield 9, 3) := by decide +kernel
theorem dX1_tell_25 : decode cX1_tell 25 = .ok (.iconst 2, 1) := by decide +kernel
theorem dX1_tell_26 : decode cX1_tell 26 = .ok (.iaload, 1) := by decide +kernel
theorem dX1_tell_27 : decode cX1_tell 27 = .ok (.putfield 94, 3) := by decide +kernel
theorem dX1_tell_30 : decode cX1_tell 30 = .ok (.aload_n 1, 1) := by decide +kernel
theorem dX1_tell_31 : decode cX1_tell 31 = .ok (.iconst 0, 1) := by decide +kernel
theorem dX1_tell_32 : decode cX1_tell 32 = .ok (.putfield 97, 3) := by decide +kernel
theorem dX1_tell_35 : decode cX1_tell 35 = .ok (.aload_n 1, 1) := by decide +kernel
theorem dX1_tell_36 : decode cX1_tell 36 = .ok (.iconst 0, 1) := by decide +kernel
theorem dX1_tell_37 : decode cX1_tell 37 = .ok (.putfield 100, 3) := by decide +kernel
theorem dX1_tell_40 : decode cX1_tell 40 = .ok (.aload_n 1, 1) := by decide +kernel
theorem dX1_tell_41 : decode cX1_tell 41 = .ok (.aload_n 0, 1) := by decide +kernel
theorem dX1_tell_42 : decode cX1_tell 42 = .ok (.getfield 22, 3) := by decide +kernel
theorem dX1_tell_45 : decode cX1_tell 45 = .ok (.putfield 103, 3) := by decide +kernel
theorem dX1_tell_48 : decode cX1_tell 48 = .ok (.iconst 0, 1) := by decide +kernel
theorem dX1_tell_49 : decode cX1_tell 49 = .ok (.istore_n 2, 1) := by decide +kernel
theorem dX1_tell_50 : decode cX1_tell 50 = .ok (.iload_n 2, 1) := by decide +kernel
theorem dX1_tell_51 : decode cX1_tell 51 = .ok (.aload_n 0, 1) := by decide +kernel
theorem dX1_tell_52 : decode cX1_tell 52 = .ok (.getfield 22, 3) := by decide +kernel
theorem dX1_tell_55 : decode cX1_tell 55 = .ok (.if_icmp .ge 84, 3) := by decide +kernel
theorem dX1_tell_58 : decode cX1_tell 58 = .ok (.iload_n 2, 1) := by decide +kernel
theorem dX1_tell_59 : decode cX1_tell 59 = .ok (.iconst 4, 1) := by decide +kernel
theorem dX1_tell_60 : decode cX1_tell 60 = .ok (.if_icmp .ge 79, 3) := by decide +kernel
theorem dX1_tell_63 : decode cX1_tell 63 = .ok (.aload_n 1, 1) := by decide +kernel
theorem dX1_tell_64 : decode cX1_tell 64 = .ok (.getfield 106, 3) := by decide +kernel
theorem dX1_tell_67 : decode cX1_tell 67 = .ok (.iload_n 2, 1) := by decide +kernel
theorem dX1_tell_68 : decode cX1_tell 68 = .ok (.aaload, 1) := by decide +kernel
theorem dX1_tell_69 : decode cX1_tell 69 = .ok (.astore_n 3, 1) := by decide +kernel
theorem dX1_tell_70 : decode cX1_tell 70 = .ok (.aload_n 3, 1) := by decide +kernel
theorem dX1_tell_71 : decode cX1_tell 71 = .ok (.aload_n 0, 1) := by decide +kernel
theorem dX1_tell_72 : decode cX1_tell 72 = .ok (.getfield 19, 3) := by decide +kernel
theorem dX1_tell_75 : decode cX1_tell 75 = .ok (.iconst 4, 1) := by decide +kernel
theorem dX1_tell_76 : decode cX1_tell 76 = .ok (.iload_n 2, 1) := by decide +kernel
theorem dX1_tell_77 : decode cX1_tell 77 = .ok (.imul, 1) := by decide +kernel
theorem dX1_tell_78 : decode cX1_tell 78 = .ok (.iaload, 1) := by decide +kernel
theorem dX1_tell_79 : decode cX1_tell 79 = .ok (.putfield 109, 3) := by decide +kernel
theorem dX1_tell_82 : decode cX1_tell 82 = .ok (.aload_n 3, 1) := by decide +kernel
theorem dX1_tell_83 : decode cX1_tell 83 = .ok (.aload_n 0, 1) := by decide +kernel
theorem dX1_tell_84 : decode cX1_tell 84 = .ok (.getfield 19, 3) := by decide +kernel
theorem dX1_tell_87 : decode cX1_tell 87 = .ok (.iconst 4, 1) := by decide +kernel
theorem dX1_tell_88 : decode cX1_tell 88 = .ok (.iload_n 2, 1) := by decide +kernel
theorem dX1_tell_89 : decode cX1_tell 89 = .ok (.imul, 1) := by decide +kernel
theorem dX1_tell_90 : decode cX1_tell 90 = .ok (.iconst 1, 1) := by decide +kernel
theorem dX1_tell_91 : decode cX1_tell 91 = .ok (.iadd, 1) := by decide +kernel
theorem dX1_tell_92 : decode cX1_tell 92 = .ok (.iaload, 1) := by decide +kernel
theorem dX1_tell_93 : decode cX1_tell 93 = .ok (.iconst 1, 1) := by decide +kernel
theorem dX1_tell_94 : decode cX1_tell 94 = .ok (.if_icmp .ne 7, 3) := by decide +kernel
theorem dX1_tell_97 : decode cX1_tell 97 = .ok (.iconst 1, 1) := by decide +kernel
theorem dX1_tell_98 : decode cX1_tell 98 = .ok (.goto 4, 3) := by decide +kernel
theorem dX1_tell_101 : decode cX1_tell 101 = .ok (.iconst 0, 1) := by decide +kernel
theorem dX1_tell_102 : decode cX1_tell 102 = .ok (.putfield 114, 3) := by decide +kernel
theorem dX1_tell_105 : decode cX1_tell 105 = .ok (.aload_n 3, 1) := by decide +kernel
theorem dX1_tell_106 : decode cX1_tell 106 = .ok (.aload_n 0, 1) := by decide +kernel
theorem dX1_tell_107 : decode cX1_tell 107 = .ok (.getfield 19, 3) := by decide +kernel
theorem dX1_tell_110 : decode cX1_tell 110 = .ok (.iconst 4, 1) := by decide +kernel
theorem dX1_tell_111 : decode cX1_tell 111 = .ok (.iload_n 2, 1) := by decide +kernel
theorem dX1_tell_112 : decode cX1_tell 112 = .ok (.imul, 1) := by decide +kernel
theorem dX1_tell_113 : decode cX1_tell 113 = .ok (.iconst 2, 1) := by decide +kernel
theorem dX1_tell_114 : decode cX1_tell 114 = .ok (.iadd, 1) := by decide +kernel
theorem dX1_tell_115 : decode cX1_tell 115 = .ok (.iaload, 1) := by decide +kernel
theorem dX1_tell_116 : decode cX1_tell 116 = .ok (.putfield 117, 3) := by decide +kernel
theorem dX1_tell_119 : decode cX1_tell 119 = .ok (.aload_n 3, 1) := by decide +kernel
theorem dX1_tell_120 : decode cX1_tell 120 = .ok (.aload_n 0, 1) := by decide +kernel
theorem dX1_tell_121 : decode cX1_tell 121 = .ok (.getfield 19, 3) := by decide +kernel
theorem dX1_tell_124 : decode cX1_tell 124 = .ok (.iconst 4, 1) := by decide +kernel
theorem dX1_tell_125 : decode cX1_tell 125 = .ok (.iload_n 2, 1) := by decide +kernel
theorem dX1_tell_126 : decode cX1_tell 126 = .ok (.imul, 1) := by decide +kernel
theorem dX1_tell_127 : decode cX1_tell 127 = .ok (.iconst 3, 1) := by decide +kernel
theorem dX1_tell_128 : decode cX1_tell 128 = .ok (.iadd, 1) := by decide +kernel
theorem dX1_tell_129 : decode cX1_tell 129 = .ok (.iaload, 1) := by decide +kernel
theorem dX1_tell_130 : decode cX1_tell 130 = .ok (.putfield 120, 3) := by decide +kernel
theorem dX1_tell_133 : decode cX1_tell 133 = .ok (.iinc 2 1, 3) := by decide +kernel
theorem dX1_tell_136 : decode cX1_tell 136 = .ok (.goto (-86), 3) := by decide +kernel
theorem dX1_tell_139 : decode cX1_tell 139 = .ok (.return_, 1) := by decide +kernel
theorem dX2_init_0 : decode cX2_init 0 = .ok (.aload_n 0, 1) := by decide +kernel
theorem dX2_init_1 : decode cX2_init 1 = .ok (.invokespecial 1, 3) := by decide +kernel
theorem dX2_init_4 : decode cX2_init 4 = .ok (.aload_n 0, 1) := by decide +kernel
theorem dX2_init_5 : decode cX2_init 5 = .ok (.bipush 64, 2) := by decide +kernel
theorem dX2_init_7 : decode cX2_init 7 = .ok (.newarray .int, 2) := by decide +kernel
theorem dX2_init_9 : decode cX2_init 9 = .ok (.putfield 7, 3) := by decide +kernel
theorem dX2_init_12 : decode cX2_init 12 = .ok (.aload_n 0, 1) := by decide +kernel
theorem dX2_init_13 : decode cX2_init 13 = .ok (.iconst 0, 1) := by decide +kernel
theorem dX2_init_14 : decode cX2_init 14 = .ok (.putfield 13, 3) := by decide +kernel
theorem dX2_init_17 : decode cX2_init 17 = .ok (.aload_n 0, 1) := by decide +kernel
theorem dX2_init_18 : decode cX2_init 18 = .ok (.aload_n 1, 1) := by decide +kernel
theorem dX2_init_19 : decode cX2_init 19 = .ok (.putfield 17, 3) := by decide +kernel
theorem dX2_init_22 : decode cX2_init 22 = .ok (.return_, 1) := by decide +kernel
theorem dX2_letterCode_0 : decode cX2_letterCode 0 = .ok (.iconst (-1), 1) := by decide +kernel
theorem dX2_letterCode_1 : decode cX2_letterCode 1 = .ok (.iload_n 0, 1) := by decide +kernel
theorem dX2_letterCode_2 : decode cX2_letterCode 2 = .ok (.isub, 1) := by decide +kernel
theorem dX2_letterCode_3 : decode cX2_letterCode 3 = .ok (.ireturn, 1) := by decide +kernel
theorem dX2_signCode_0 : decode cX2_signCode 0 = .ok (.bipush (-100), 2) := by decide +kernel
theorem dX2_signCode_2 : decode cX2_signCode 2 = .ok (.iload_n 0, 1) := by decide +kernel
theorem dX2_signCode_3 : decode cX2_signCode 3 = .ok (.isub, 1) := by decide +kernel
theorem dX2_signCode_4 : decode cX2_signCode 4 = .ok (.ireturn, 1) := by decide +kernel
theorem dX2_worth_0 : decode cX2_worth 0 = .ok (.aload_n 0, 1) := by decide +kernel
theorem dX2_worth_1 : decode cX2_worth 1 = .ok (.iconst 0, 1) := by decide +kernel
theorem dX2_worth_2 : decode cX2_worth 2 = .ok (.putfield 13, 3) := by decide +kernel
theorem dX2_worth_5 : decode cX2_worth 5 = .ok (.iconst 0, 1) := by decide +kernel
theorem dX2_worth_6 : decode cX2_worth 6 = .ok (.istore_n 2, 1) := by decide +kernel
theorem dX2_worth_7 : decode cX2_worth 7 = .ok (.iload_n 2, 1) := by decide +kernel
theorem dX2_worth_8 : decode cX2_worth 8 = .ok (.aload_n 0, 1) := by decide +kernel
theorem dX2_worth_9 : decode cX2_worth 9 = .ok (.getfield 17, 3) := by decide +kernel
theorem dX2_worth_12 : decode cX2_worth 12 = .ok (.arraylength, 1) := by decide +kernel
theorem dX2_worth_13 : decode cX2_worth 13 = .ok (.if_icmp .ge 169, 3) := by decide +kernel
theorem dX2_worth_16 : decode cX2_worth 16 = .ok (.aload_n 0, 1) := by decide +kernel
theorem dX2_worth_17 : decode cX2_worth 17 = .ok (.getfield 17, 3) := by decide +kernel
theorem dX2_worth_20 : decode cX2_worth 20 = .ok (.iload_n 2, 1) := by decide +kernel
theorem dX2_worth_21 : decode cX2_worth 21 = .ok (.iaload, 1) := by decide +kernel
theorem dX2_worth_22 : decode cX2_worth 22 = .ok (.istore_n 3, 1) := by decide +kernel
theorem dX2_worth_23 : decode cX2_worth 23 = .ok (.iconst (-1), 1) := by decide +kernel
theorem dX2_worth_24 : decode cX2_worth 24 = .ok (.iload_n 3, 1) := by decide +kernel
theorem dX2_worth_25 : decode cX2_worth 25 = .ok (.isub, 1) := by decide +kernel
theorem dX2_worth_26 : decode cX2_worth 26 = .ok (.istore 4, 2) := by decide +kernel
theorem dX2_worth_28 : decode cX2_worth 28 = .ok (.iload_n 3, 1) := by decide +kernel
theorem dX2_worth_29 : decode cX2_worth 29 = .ok (.bipush (-12), 2) := by decide +kernel
theorem dX2_worth_31 : decode cX2_worth 31 = .ok (.if_icmp .ne 8, 3) := by decide +kernel
theorem dX2_worth_34 : decode cX2_worth 34 = .ok (.aload_n 0, 1) := by decide +kernel
theorem dX2_worth_35 : decode cX2_worth 35 = .ok (.invokevirtual 20, 3) := by decide +kernel
theorem dX2_worth_38 : decode cX2_worth 38 = .ok (.ireturn, 1) := by decide +kernel
theorem dX2_worth_39 : decode cX2_worth 39 = .ok (.iload_n 3, 1) := by decide +kernel
theorem dX2_worth_40 : decode cX2_worth 40 = .ok (.bipush (-11), 2) := by decide +kernel
theorem dX2_worth_42 : decode cX2_worth 42 = .ok (.if_icmp .ne 55, 3) := by decide +kernel
theorem dX2_worth_45 : decode cX2_worth 45 = .ok (.iload_n 2, 1) := by decide +kernel
theorem dX2_worth_46 : decode cX2_worth 46 = .ok (.iconst 1, 1) := by decide +kernel
theorem dX2_worth_47 : decode cX2_worth 47 = .ok (.iadd, 1) := by decide +kernel
theorem dX2_worth_48 : decode cX2_worth 48 = .ok (.aload_n 0, 1) := by decide +kernel
theorem dX2_worth_49 : decode cX2_worth 49 = .ok (.getfield 17, 3) := by decide +kernel
theorem dX2_worth_52 : decode cX2_worth 52 = .ok (.arraylength, 1) := by decide +kernel
theorem dX2_worth_53 : decode cX2_worth 53 = .ok (.if_icmp .ge 14, 3) := by decide +kernel
theorem dX2_worth_56 : decode cX2_worth 56 = .ok (.aload_n 0, 1) := by decide +kernel
theorem dX2_worth_57 : decode cX2_worth 57 = .ok (.getfield 17, 3) := by decide +kernel
theorem dX2_worth_60 : decode cX2_worth 60 = .ok (.iload_n 2, 1) := by decide +kernel
theorem dX2_worth_61 : decode cX2_worth 61 = .ok (.iconst 1, 1) := by decide +kernel
theorem dX2_worth_62 : decode cX2_worth 62 = .ok (.iadd, 1) := by decide +kernel
theorem dX2_worth_63 : decode cX2_worth 63 = .ok (.iaload, 1) := by decide +kernel
theorem dX2_worth_64 : decode cX2_worth 64 = .ok (.goto 4, 3) := by decide +kernel
theorem dX2_worth_67 : decode cX2_worth 67 = .ok (.iconst 0, 1) := by decide +kernel
theorem dX2_worth_68 : decode cX2_worth 68 = .ok (.istore 5, 2) := by decide +kernel
theorem dX2_worth_70 : decode cX2_worth 70 = .ok (.aload_n 0, 1) := by decide +kernel
theorem dX2_worth_71 : decode cX2_worth 71 = .ok (.invokevirtual 20, 3) := by decide +kernel
theorem dX2_worth_74 : decode cX2_worth 74 = .ok (.ifCond .eq 9, 3) := by decide +kernel
theorem dX2_worth_77 : decode cX2_worth 77 = .ok (.iload_n 2, 1) := by decide +kernel
theorem dX2_worth_78 : decode cX2_worth 78 = .ok (.iconst 1, 1) := by decide +kernel
theorem dX2_worth_79 : decode cX2_worth 79 = .ok (.iadd, 1) := by decide +kernel
theorem dX2_worth_80 : decode cX2_worth 80 = .ok (.goto 13, 3) := by decide +kernel
theorem dX2_worth_83 : decode cX2_worth 83 = .ok (.iload_n 2, 1) := by decide +kernel
theorem dX2_worth_84 : decode cX2_worth 84 = .ok (.iconst 1, 1) := by decide +kernel
theorem dX2_worth_85 : decode cX2_worth 85 = .ok (.iadd, 1) := by decide +kernel
theorem dX2_worth_86 : decode cX2_worth 86 = .ok (.iload 5, 2) := by decide +kernel
theorem dX2_worth_88 : decode cX2_worth 88 = .ok (.iconst 1, 1) := by decide +kernel
theorem dX2_worth_89 : decode cX2_worth 89 = .ok (.isub, 1) := by decide +kernel
theorem dX2_worth_90 : decode cX2_worth 90 = .ok (.invokestatic 24, 3) := by decide +kernel
theorem dX2_worth_93 : decode cX2_worth 93 = .ok (.istore_n 2, 1) := by decide +kernel
theorem dX2_worth_94 : decode cX2_worth 94 = .ok (.goto 82, 3) := by decide +kernel
theorem dX2_worth_97 : decode cX2_worth 97 = .ok (.iload_n 3, 1) := by decide +kernel
theorem dX2_worth_98 : decode cX2_worth 98 = .ok (.bipush (-10), 2) := by decide +kernel
theorem dX2_worth_100 : decode cX2_worth 100 = .ok (.if_icmp .ne 16, 3) := by decide +kernel
theorem dX2_worth_103 : decode cX2_worth 103 = .ok (.aload_n 0, 1) := by decide +kernel
theorem dX2_worth_104 : decode cX2_worth 104 = .ok (.iconst 1, 1) := by decide +kernel
theorem dX2_worth_105 : decode cX2_worth 105 = .ok (.aload_n 0, 1) := by decide +kernel
theorem dX2_worth_106 : decode cX2_worth 106 = .ok (.invokevirtual 20, 3) := by decide +kernel
theorem dX2_worth_109 : decode cX2_worth 109 = .ok (.isub, 1) := by decide +kernel
theorem dX2_worth_110 : decode cX2_worth 110 = .ok (.invokevirtual 30, 3) := by decide +kernel
theorem dX2_worth_113 : decode cX2_worth 113 = .ok (.goto 63, 3) := by decide +kernel
theorem dX2_worth_116 : decode cX2_worth 116 = .ok (.iload_n 3, 1) := by decide +kernel
theorem dX2_worth_117 : decode cX2_worth 117 = .ok (.ifCond .lt 11, 3) := by decide +kernel
theorem dX2_worth_120 : decode cX2_worth 120 = .ok (.aload_n 0, 1) := by decide +kernel
theorem dX2_worth_121 : decode cX2_worth 121 = .ok (.iload_n 3, 1) := by decide +kernel
theorem dX2_worth_122 : decode cX2_worth 122 = .ok (.invokevirtual 30, 3) := by decide +kernel
theorem dX2_worth_125 : decode cX2_worth 125 = .ok (.goto 51, 3) := by decide +kernel
theorem dX2_worth_128 : decode cX2_worth 128 = .ok (.iload 4, 2) := by decide +kernel
theorem dX2_worth_130 : decode cX2_worth 130 = .ok (.aload_n 1, 1) := by decide +kernel
theorem dX2_worth_131 : decode cX2_worth 131 = .ok (.arraylength, 1) := by decide +kernel
theorem dX2_worth_132 : decode cX2_worth 132 = .ok (.if_icmp .ge 14, 3) := by decide +kernel
theorem dX2_worth_135 : decode cX2_worth 135 = .ok (.aload_n 0, 1) := by decide +kernel
theorem dX2_worth_136 : decode cX2_worth 136 = .ok (.aload_n 1, 1) := by decide +kernel
theorem dX2_worth_137 : decode cX2_worth 137 = .ok (.iload 4, 2) := by decide +kernel
theorem dX2_worth_139 : decode cX2_worth 139 = .ok (.iaload, 1) := by decide +kernel
theorem dX2_worth_140 : decode cX2_worth 140 = .ok (.invokevirtual 30, 3) := by decide +kernel
theorem dX2_worth_143 : decode cX2_worth 143 = .ok (.goto 33, 3) := by decide +kernel
theorem dX2_worth_146 : decode cX2_worth 146 = .ok (.aload_n 0, 1) := by decide +kernel
theorem dX2_worth_147 : decode cX2_worth 147 = .ok (.invokevirtual 20, 3) := by decide +kernel
theorem dX2_worth_150 : decode cX2_worth 150 = .ok (.istore 5, 2) := by decide +kernel
theorem dX2_worth_152 : decode cX2_worth 152 = .ok (.aload_n 0, 1) := by decide +kernel
theorem dX2_worth_153 : decode cX2_worth 153 = .ok (.bipush (-100), 2) := by decide +kernel
theorem dX2_worth_155 : decode cX2_worth 155 = .ok (.iload_n 3, 1) := by decide +kernel
theorem dX2_worth_156 : decode cX2_worth 156 = .ok (.isub, 1) := by decide +kernel
theorem dX2_worth_157 : decode cX2_worth 157 = .ok (.aload_n 0, 1) := by decide +kernel
theorem dX2_worth_158 : decode cX2_worth 158 = .ok (.invokevirtual 20, 3) := by decide +kernel
theorem dX2_worth_161 : decode cX2_worth 161 = .ok (.iload 5, 2) := by decide +kernel
theorem dX2_worth_163 : decode cX2_worth 163 = .ok (.invokestatic 34, 3) := by decide +kernel
theorem dX2_worth_166 : decode cX2_worth 166 = .ok (.ldc 38, 2) := by decide +kernel
theorem dX2_worth_168 : decode cX2_worth 168 = .ok (.ldc 39, 2) := by decide +kernel
theorem dX2_worth_170 : decode cX2_worth 170 = .ok (.invokestatic 40, 3) := by decide +kernel
theorem dX2_worth_173 : decode cX2_worth 173 = .ok (.invokevirtual 30, 3) := by decide +kernel
theorem dX2_worth_176 : decode cX2_worth 176 = .ok (.iinc 2 1, 3) := by decide +kernel
theorem dX2_worth_179 : decode cX2_worth 179 = .ok (.goto (-172), 3) := by decide +kernel
theorem dX2_worth_182 : decode cX2_worth 182 = .ok (.iconst 0, 1) := by decide +kernel
theorem dX2_worth_183 : decode cX2_worth 183 = .ok (.ireturn, 1) := by decide +kernel
theorem dX2_joined_0 : decode cX2_joined 0 = .ok (.iload_n 0, 1) := by decide +kernel
theorem dX2_joined_1 : decode cX2_joined 1 = .ok (.lookupswitch 157 #[(38, 147), (42, 95), (43, 83), (45, 89), (47, 101), (60, 125), (61, 114), (62, 136), (124, 152)], 83) := by decide +kernel
theorem dX2_joined_84 : decode cX2_joined 84 = .ok (.iload_n 1, 1) := by decide +kernel
theorem dX2_joined_85 : decode cX2_joined 85 = .ok (.i2l, 1) := by decide +kernel
theorem dX2_joined_86 : decode cX2_joined 86 = .ok (.iload_n 2, 1) := by decide +kernel
theorem dX2_joined_87 : decode cX2_joined 87 = .ok (.i2l, 1) := by decide +kernel
theorem dX2_joined_88 : decode cX2_joined 88 = .ok (.ladd, 1) := by decide +kernel
theorem dX2_joined_89 : decode cX2_joined 89 = .ok (.lreturn, 1) := by decide +kernel
theorem dX2_joined_90 : decode cX2_joined 90 = .ok (.iload_n 1, 1) := by decide +kernel
theorem dX2_joined_91 : decode cX2_joined 91 = .ok (.i2l, 1) := by decide +kernel
theorem dX2_joined_92 : decode cX2_joined 92 = .ok (.iload_n 2, 1) := by decide +kernel
theorem dX2_joined_93 : decode cX2_joined 93 = .ok (.i2l, 1) := by decide +kernel
theorem dX2_joined_94 : decode cX2_joined 94 = .ok (.lsub, 1) := by decide +kernel
theorem dX2_joined_95 : decode cX2_joined 95 = .ok (.lreturn, 1) := by decide +kernel
theorem dX2_joined_96 : decode cX2_joined 96 = .ok (.iload_n 1, 1) := by decide +kernel
theorem dX2_joined_97 : decode cX2_joined 97 = .ok (.i2l, 1) := by decide +kernel
theorem dX2_joined_98 : decode cX2_joined 98 = .ok (.iload_n 2, 1) := by decide +kernel
theorem dX2_joined_99 : decode cX2_joined 99 = .ok (.i2l, 1) := by decide +kernel
theorem dX2_joined_100 : decode cX2_joined 100 = .ok (.lmul, 1) := by decide +kernel
theorem dX2_joined_101 : decode cX2_joined 101 = .ok (.lreturn, 1) := by decide +kernel
theorem dX2_joined_102 : decode cX2_joined 102 = .ok (.iload_n 2, 1) := by decide +kernel
theorem dX2_joined_103 : decode cX2_joined 103 = .ok (.ifCond .ne 7, 3) := by decide +kernel
theorem dX2_joined_106 : decode cX2_joined 106 = .ok (.lconst 0, 1) := by decide +kernel
theorem dX2_joined_107 : decode cX2_joined 107 = .ok (.goto 7, 3) := by decide +kernel
theorem dX2_joined_110 : decode cX2_joined 110 = .ok (.iload_n 1, 1) := by decide +kernel
theorem dX2_joined_111 : decode cX2_joined 111 = .ok (.iload_n 2, 1) := by decide +kernel
theorem dX2_joined_112 : decode cX2_joined 112 = .ok (.idiv, 1) := by decide +kernel
theorem dX2_joined_113 : decode cX2_joined 113 = .ok (.i2l, 1) := by decide +kernel
theorem dX2_joined_114 : decode cX2_joined 114 = .ok (.lreturn, 1) := by decide +kernel
theorem dX2_joined_115 : decode cX2_joined 115 = .ok (.iload_n 1, 1) := by decide +kernel
theorem dX2_joined_116 : decode cX2_joined 116 = .ok (.iload_n 2, 1) := by decide +kernel
theorem dX2_joined_117 : decode cX2_joined 117 = .ok (.if_icmp .ne 7, 3) := by decide +kernel
theorem dX2_joined_120 : decode cX2_joined 120 = .ok (.lconst 1, 1) := by decide +kernel
theorem dX2_joined_121 : decode cX2_joined 121 = .ok (.goto 4, 3) := by decide +kernel
theorem dX2_joined_124 : decode cX2_joined 124 = .ok (.lconst 0, 1) := by decide +kernel
theorem dX2_joined_125 : decode cX2_joined 125 = .ok (.lreturn, 1) := by decide +kernel
theorem dX2_joined_126 : decode cX2_joined 126 = .ok (.iload_n 1, 1) := by decide +kernel
theorem dX2_joined_127 : decode cX2_joined 127 = .ok (.iload_n 2, 1) := by decide +kernel
theorem dX2_joined_128 : decode cX2_joined 128 = .ok (.if_icmp .ge 7, 3) := by decide +kernel
theorem dX2_joined_131 : decode cX2_joined 131 = .ok (.lconst 1, 1) := by decide +kernel
theorem dX2_joined_132 : decode cX2_joined 132 = .ok (.goto 4, 3) := by decide +kernel
theorem dX2_joined_135 : decode cX2_joined 135 = .ok (.lconst 0, 1) := by decide +kernel
theorem dX2_joined_136 : decode cX2_joined 136 = .ok (.lreturn, 1) := by decide +kernel
theorem dX2_joined_137 : decode cX2_joined 137 = .ok (.iload_n 1, 1) := by decide +kernel
theorem dX2_joined_138 : decode cX2_joined 138 = .ok (.iload_n 2, 1) := by decide +kernel
theorem dX2_joined_139 : decode cX2_joined 139 = .ok (.if_icmp .le 7, 3) := by decide +kernel
theorem dX2_joined_142 : decode cX2_joined 142 = .ok (.lconst 1, 1) := by decide +kernel
theorem dX2_joined_143 : decode cX2_joined 143 = .ok (.goto 4, 3) := by decide +kernel
theorem dX2_joined_146 : decode cX2_joined 146 = .ok (.lconst 0, 1) := by decide +kernel
theorem dX2_joined_147 : decode cX2_joined 147 = .ok (.lreturn, 1) := by decide +kernel
theorem dX2_joined_148 : decode cX2_joined 148 = .ok (.iload_n 1, 1) := by decide +kernel
theorem dX2_joined_149 : decode cX2_joined 149 = .ok (.iload_n 2, 1) := by decide +kernel
theorem dX2_joined_150 : decode cX2_joined 150 = .ok (.iand, 1) := by decide +kernel
theorem dX2_joined_151 : decode cX2_joined 151 = .ok (.i2l, 1) := by decide +kernel
theorem dX2_joined_152 : decode cX2_joined 152 = .ok (.lreturn, 1) := by decide +kernel
theorem dX2_joined_153 : decode cX2_joined 153 = .ok (.iload_n 1, 1) := by decide +kernel
theorem dX2_joined_154 : decode cX2_joined 154 = .ok (.iload_n 2, 1) := by decide +kernel
theorem dX2_joined_155 : decode cX2_joined 155 = .ok (.ior, 1) := by decide +kernel
theorem dX2_joined_156 : decode cX2_joined 156 = .ok (.i2l, 1) := by decide +kernel
theorem dX2_joined_157 : decode cX2_joined 157 = .ok (.lreturn, 1) := by decide +kernel
theorem dX2_joined_158 : decode cX2_joined 158 = .ok (.lconst 0, 1) := by decide +kernel
theorem dX2_joined_159 : decode cX2_joined 159 = .ok (.lreturn, 1) := by decide +kernel
theorem dX2_pile_0 : decode cX2_pile 0 = .ok (.aload_n 0, 1) := by decide +kernel
theorem dX2_pile_1 : decode cX2_pile 1 = .ok (.getfield 13, 3) := by decide +kernel
theorem dX2_pile_4 : decode cX2_pile 4 = .ok (.aload_n 0, 1) := by decide +kernel
theorem dX2_pile_5 : decode cX2_pile 5 = .ok (.getfield 7, 3) := by decide +kernel
theorem dX2_pile_8 : decode cX2_pile 8 = .ok (.arraylength, 1) := by decide +kernel
theorem dX2_pile_9 : decode cX2_pile 9 = .ok (.if_icmp .ge 23, 3) := by decide +kernel
theorem dX2_pile_12 : decode cX2_pile 12 = .ok (.aload_n 0, 1) := by decide +kernel
theorem dX2_pile_13 : decode cX2_pile 13 = .ok (.getfield 7, 3) := by decide +kernel
theorem dX2_pile_16 : decode cX2_pile 16 = .ok (.aload_n 0, 1) := by decide +kernel
theorem dX2_pile_17 : decode cX2_pile 17 = .ok (.getfield 13, 3) := by decide +kernel
theorem dX2_pile_20 : decode cX2_pile 20 = .ok (.iload_n 1, 1) := by decide +kernel
theorem dX2_pile_21 : decode cX2_pile 21 = .ok (.iastore, 1) := by decide +kernel
theorem dX2_pile_22 : decode cX2_pile 22 = .ok (.aload_n 0, 1) := by decide +kernel
theorem dX2_pile_23 : decode cX2_pile 23 = .ok (.dup, 1) := by decide +kernel
theorem dX2_pile_24 : decode cX2_pile 24 = .ok (.getfield 13, 3) := by decide +kernel
theorem dX2_pile_27 : decode cX2_pile 27 = .ok (.iconst 1, 1) := by decide +kernel
theorem dX2_pile_28 : decode cX2_pile 28 = .ok (.iadd, 1) := by decide +kernel
theorem dX2_pile_29 : decode cX2_pile 29 = .ok (.putfield 13, 3) := by decide +kernel
theorem dX2_pile_32 : decode cX2_pile 32 = .ok (.return_, 1) := by decide +kernel
theorem dX2_pull_0 : decode cX2_pull 0 = .ok (.aload_n 0, 1) := by decide +kernel
theorem dX2_pull_1 : decode cX2_pull 1 = .ok (.getfield 13, 3) := by decide +kernel
theorem dX2_pull_4 : decode cX2_pull 4 = .ok (.iconst 1, 1) := by decide +kernel
theorem dX2_pull_5 : decode cX2_pull 5 = .ok (.if_icmp .ge 5, 3) := by decide +kernel
theorem dX2_pull_8 : decode cX2_pull 8 = .ok (.iconst 0, 1) := by decide +kernel
theorem dX2_pull_9 : decode cX2_pull 9 = .ok (.ireturn, 1) := by decide +kernel
theorem dX2_pull_10 : decode cX2_pull 10 = .ok (.aload_n 0, 1) := by decide +kernel
theorem dX2_pull_11 : decode cX2_pull 11 = .ok (.dup, 1) := by decide +kernel
theorem dX2_pull_12 : decode cX2_pull 12 = .ok (.getfield 13, 3) := by decide +kernel
theorem dX2_pull_15 : decode cX2_pull 15 = .ok (.iconst 1, 1) := by decide +kernel
theorem dX2_pull_16 : decode cX2_pull 16 = .ok (.isub, 1) := by decide +kernel
theorem dX2_pull_17 : decode cX2_pull 17 = .ok (.putfield 13, 3) := by decide +kernel
theorem dX2_pull_20 : decode cX2_pull 20 = .ok (.aload_n 0, 1) := by decide +kernel
theorem dX2_pull_21 : decode cX2_pull 21 = .ok (.getfield 7, 3) := by decide +kernel
theorem dX2_pull_24 : decode cX2_pull 24 = .ok (.aload_n 0, 1) := by decide +kernel
theorem dX2_pull_25 : decode cX2_pull 25 = .ok (.getfield 13, 3) := by decide +kernel
theorem dX2_pull_28 : decode cX2_pull 28 = .ok (.iaload, 1) := by decide +kernel
theorem dX2_pull_29 : decode cX2_pull 29 = .ok (.ireturn, 1) := by decide +kernel
theorem dX3_init_0 : decode cX3_init 0 = .ok (.aload_n 0, 1) := by decide +kernel
theorem dX3_init_1 : decode cX3_init 1 = .ok (.invokespecial 3, 3) := by decide +kernel
theorem dX3_init_4 : decode cX3_init 4 = .ok (.aload_n 0, 1) := by decide +kernel
theorem dX3_init_5 : decode cX3_init 5 = .ok (.sipush 720, 3) := by decide +kernel
theorem dX3_init_8 : decode cX3_init 8 = .ok (.newarray .int, 2) := by decide +kernel
theorem dX3_init_10 : decode cX3_init 10 = .ok (.putfield 9, 3) := by decide +kernel
theorem dX3_init_13 : decode cX3_init 13 = .ok (.aload_n 0, 1) := by decide +kernel
theorem dX3_init_14 : decode cX3_init 14 = .ok (.iconst 0, 1) := by decide +kernel
theorem dX3_init_15 : decode cX3_init 15 = .ok (.putfield 15, 3) := by decide +kernel
theorem dX3_init_18 : decode cX3_init 18 = .ok (.return_, 1) := by decide +kernel
theorem dX3_isWhole_0 : decode cX3_isWhole 0 = .ok (.aload_n 0, 1) := by decide +kernel
theorem dX3_isWhole_1 : decode cX3_isWhole 1 = .ok (.iconst 0, 1) := by decide +kernel
theorem dX3_isWhole_2 : decode cX3_isWhole 2 = .ok (.putfield 15, 3) := by decide +kernel
theorem dX3_isWhole_5 : decode cX3_isWhole 5 = .ok (.iconst 0, 1) := by decide +kernel
theorem dX3_isWhole_6 : decode cX3_isWhole 6 = .ok (.istore_n 1, 1) := by decide +kernel
theorem dX3_isWhole_7 : decode cX3_isWhole 7 = .ok (.iload_n 1, 1) := by decide +kernel
theorem dX3_isWhole_8 : decode cX3_isWhole 8 = .ok (.sipush 240, 3) := by decide +kernel
theorem dX3_isWhole_11 : decode cX3_isWhole 11 = .ok (.if_icmp .gt 41, 3) := by decide +kernel
theorem dX3_isWhole_14 : decode cX3_isWhole 14 = .ok (.aload_n 0, 1) := by decide +kernel
theorem dX3_isWhole_15 : decode cX3_isWhole 15 = .ok (.invokevirtual 19, 3) := by decide +kernel
theorem dX3_isWhole_18 : decode cX3_isWhole 18 = .ok (.ifCond .ne 5, 3) := by decide +kernel
theorem dX3_isWhole_21 : decode cX3_isWhole 21 = .ok (.iconst 0, 1) := by decide +kernel
theorem dX3_isWhole_22 : decode cX3_isWhole 22 = .ok (.ireturn, 1) := by decide +kernel
theorem dX3_isWhole_23 : decode cX3_isWhole 23 = .ok (.aload_n 0, 1) := by decide +kernel
theorem dX3_isWhole_24 : decode cX3_isWhole 24 = .ok (.bipush 59, 2) := by decide +kernel
theorem dX3_isWhole_26 : decode cX3_isWhole 26 = .ok (.invokevirtual 23, 3) := by decide +kernel
theorem dX3_isWhole_29 : decode cX3_isWhole 29 = .ok (.ifCond .ne 17, 3) := by decide +kernel
theorem dX3_isWhole_32 : decode cX3_isWhole 32 = .ok (.aload_n 0, 1) := by decide +kernel
theorem dX3_isWhole_33 : decode cX3_isWhole 33 = .ok (.invokevirtual 27, 3) := by decide +kernel
theorem dX3_isWhole_36 : decode cX3_isWhole 36 = .ok (.iconst (-1), 1) := by decide +kernel
theorem dX3_isWhole_37 : decode cX3_isWhole 37 = .ok (.if_icmp .ne 7, 3) := by decide +kernel
theorem dX3_isWhole_40 : decode cX3_isWhole 40 = .ok (.iconst 1, 1) := by decide +kernel
theorem dX3_isWhole_41 : decode cX3_isWhole 41 = .ok (.goto 4, 3) := by decide +kernel
theorem dX3_isWhole_44 : decode cX3_isWhole 44 = .ok (.iconst 0, 1) := by decide +kernel
theorem dX3_isWhole_45 : decode cX3_isWhole 45 = .ok (.ireturn, 1) := by decide +kernel
theorem dX3_isWhole_46 : decode cX3_isWhole 46 = .ok (.iinc 1 1, 3) := by decide +kernel
theorem dX3_isWhole_49 : decode cX3_isWhole 49 = .ok (.goto (-42), 3) := by decide +kernel
theorem dX3_isWhole_52 : decode cX3_isWhole 52 = .ok (.iconst 0, 1) := by decide +kernel
theorem dX3_isWhole_53 : decode cX3_isWhole 53 = .ok (.ireturn, 1) := by decide +kernel
theorem dX3_written_0 : decode cX3_written 0 = .ok (.aload_n 0, 1) := by decide +kernel
theorem dX3_written_1 : decode cX3_written 1 = .ok (.getfield 9, 3) := by decide +kernel
theorem dX3_written_4 : decode cX3_written 4 = .ok (.aload_n 0, 1) := by decide +kernel
theorem dX3_written_5 : decode cX3_written 5 = .ok (.getfield 15, 3) := by decide +kernel
theorem dX3_written_8 : decode cX3_written 8 = .ok (.invokestatic 31, 3) := by decide +kernel
theorem dX3_written_11 : decode cX3_written 11 = .ok (.areturn, 1) := by decide +kernel
theorem dX3_write_0 : decode cX3_write 0 = .ok (.aload_n 0, 1) := by decide +kernel
theorem dX3_write_1 : decode cX3_write 1 = .ok (.getfield 15, 3) := by decide +kernel
theorem dX3_write_4 : decode cX3_write 4 = .ok (.aload_n 0, 1) := by decide +kernel
theorem dX3_write_5 : decode cX3_write 5 = .ok (.getfield 9, 3) := by decide +kernel
theorem dX3_write_8 : decode cX3_write 8 = .ok (.arraylength, 1) := by decide +kernel
theorem dX3_write_9 : decode cX3_write 9 = .ok (.if_icmp .ge 23, 3) := by decide +kernel
theorem dX3_write_12 : decode cX3_write 12 = .ok (.aload_n 0, 1) := by decide +kernel
theorem dX3_write_13 : decode cX3_write 13 = .ok (.getfield 9, 3) := by decide +kernel
theorem dX3_write_16 : decode cX3_write 16 = .ok (.aload_n 0, 1) := by decide +kernel
theorem dX3_write_17 : decode cX3_write 17 = .ok (.getfield 15, 3) := by decide +kernel
theorem dX3_write_20 : decode cX3_write 20 = .ok (.iload_n 1, 1) := by decide +kernel
theorem dX3_write_21 : decode cX3_write 21 = .ok (.iastore, 1) := by decide +kernel
theorem dX3_write_22 : decode cX3_write 22 = .ok (.aload_n 0, 1) := by decide +kernel
theorem dX3_write_23 : decode cX3_write 23 = .ok (.dup, 1) := by decide +kernel
theorem dX3_write_24 : decode cX3_write 24 = .ok (.getfield 15, 3) := by decide +kernel
theorem dX3_write_27 : decode cX3_write 27 = .ok (.iconst 1, 1) := by decide +kernel
theorem dX3_write_28 : decode cX3_write 28 = .ok (.iadd, 1) := by decide +kernel
theorem dX3_write_29 : decode cX3_write 29 = .ok (.putfield 15, 3) := by decide +kernel
theorem dX3_write_32 : decode cX3_write 32 = .ok (.return_, 1) := by decide +kernel
theorem dX3_isClause_0 : decode cX3_isClause 0 = .ok (.aload_n 0, 1) := by decide +kernel
theorem dX3_isClause_1 : decode cX3_isClause 1 = .ok (.bipush 121, 2) := by decide +kernel
theorem dX3_isClause_3 : decode cX3_isClause 3 = .ok (.invokevirtual 23, 3) := by decide +kernel
theorem dX3_isClause_6 : decode cX3_isClause 6 = .ok (.ifCond .eq 12, 3) := by decide +kernel
theorem dX3_isClause_9 : decode cX3_isClause 9 = .ok (.aload_n 0, 1) := by decide +kernel
theorem dX3_isClause_10 : decode cX3_isClause 10 = .ok (.bipush 58, 2) := by decide +kernel
theorem dX3_isClause_12 : decode cX3_isClause 12 = .ok (.invokevirtual 23, 3) := by decide +kernel
theorem dX3_isClause_15 : decode cX3_isClause 15 = .ok (.ifCond .ne 5, 3) := by decide +kernel
theorem dX3_isClause_18 : decode cX3_isClause 18 = .ok (.iconst 0, 1) := by decide +kernel
theorem dX3_isClause_19 : decode cX3_isClause 19 = .ok (.ireturn, 1) := by decide +kernel
theorem dX3_isClause_20 : decode cX3_isClause 20 = .ok (.aload_n 0, 1) := by decide +kernel
theorem dX3_isClause_21 : decode cX3_isClause 21 = .ok (.invokevirtual 27, 3) := by decide +kernel
theorem dX3_isClause_24 : decode cX3_isClause 24 = .ok (.istore_n 1, 1) := by decide +kernel
theorem dX3_isClause_25 : decode cX3_isClause 25 = .ok (.iload_n 1, 1) := by decide +kernel
theorem dX3_isClause_26 : decode cX3_isClause 26 = .ok (.bipush 33, 2) := by decide +kernel
theorem dX3_isClause_28 : decode cX3_isClause 28 = .ok (.if_icmp .eq 9, 3) := by decide +kernel
theorem dX3_isClause_31 : decode cX3_isClause 31 = .ok (.iload_n 1, 1) := by decide +kernel
theorem dX3_isClause_32 : decode cX3_isClause 32 = .ok (.bipush 40, 2) := by decide +kernel
theorem dX3_isClause_34 : decode cX3_isClause 34 = .ok (.if_icmp .ne 24, 3) := by decide +kernel
theorem dX3_isClause_37 : decode cX3_isClause 37 = .ok (.aload_n 0, 1) := by decide +kernel
theorem dX3_isClause_38 : decode cX3_isClause 38 = .ok (.iconst 0, 1) := by decide +kernel
theorem dX3_isClause_39 : decode cX3_isClause 39 = .ok (.invokevirtual 37, 3) := by decide +kernel
theorem dX3_isClause_42 : decode cX3_isClause 42 = .ok (.ifCond .eq 14, 3) := by decide +kernel
theorem dX3_isClause_45 : decode cX3_isClause 45 = .ok (.aload_n 0, 1) := by decide +kernel
theorem dX3_isClause_46 : decode cX3_isClause 46 = .ok (.invokevirtual 40, 3) := by decide +kernel
theorem dX3_isClause_49 : decode cX3_isClause 49 = .ok (.ifCond .eq 7, 3) := by decide +kernel
theorem dX3_isClause_52 : decode cX3_isClause 52 = .ok (.iconst 1, 1) := by decide +kernel
theorem dX3_isClause_53 : decode cX3_isClause 53 = .ok (.goto 4, 3) := by decide +kernel
theorem dX3_isClause_56 : decode cX3_isClause 56 = .ok (.iconst 0, 1) := by decide +kernel
theorem dX3_isClause_57 : decode cX3_isClause 57 = .ok (.ireturn, 1) := by decide +kernel
theorem dX3_isClause_58 : decode cX3_isClause 58 = .ok (.aload_n 0, 1) := by decide +kernel
theorem dX3_isClause_59 : decode cX3_isClause 59 = .ok (.iconst 0, 1) := by decide +kernel
theorem dX3_isClause_60 : decode cX3_isClause 60 = .ok (.invokevirtual 43, 3) := by decide +kernel
theorem dX3_isClause_63 : decode cX3_isClause 63 = .ok (.ifCond .ne 5, 3) := by decide +kernel
theorem dX3_isClause_66 : decode cX3_isClause 66 = .ok (.iconst 0, 1) := by decide +kernel
theorem dX3_isClause_67 : decode cX3_isClause 67 = .ok (.ireturn, 1) := by decide +kernel
theorem dX3_isClause_68 : decode cX3_isClause 68 = .ok (.aload_n 0, 1) := by decide +kernel
theorem dX3_isClause_69 : decode cX3_isClause 69 = .ok (.invokevirtual 27, 3) := by decide +kernel
theorem dX3_isClause_72 : decode cX3_isClause 72 = .ok (.invokestatic 46, 3) := by decide +kernel
theorem dX3_isClause_75 : decode cX3_isClause 75 = .ok (.ifCond .eq 40, 3) := by decide +kernel
theorem dX3_isClause_78 : decode cX3_isClause 78 = .ok (.aload_n 0, 1) := by decide +kernel
theorem dX3_isClause_79 : decode cX3_isClause 79 = .ok (.iconst 0, 1) := by decide +kernel
theorem dX3_isClause_80 : decode cX3_isClause 80 = .ok (.invokevirtual 49, 3) := by decide +kernel
theorem dX3_isClause_83 : decode cX3_isClause 83 = .ok (.ifCond .eq 30, 3) := by decide +kernel
theorem dX3_isClause_86 : decode cX3_isClause 86 = .ok (.aload_n 0, 1) := by decide +kernel
theorem dX3_isClause_87 : decode cX3_isClause 87 = .ok (.iconst 0, 1) := by decide +kernel
theorem dX3_isClause_88 : decode cX3_isClause 88 = .ok (.invokevirtual 52, 3) := by decide +kernel
theorem dX3_isClause_91 : decode cX3_isClause 91 = .ok (.ifCond .eq 22, 3) := by decide +kernel
theorem dX3_isClause_94 : decode cX3_isClause 94 = .ok (.aload_n 0, 1) := by decide +kernel
theorem dX3_isClause_95 : decode cX3_isClause 95 = .ok (.iconst 0, 1) := by decide +kernel
theorem dX3_isClause_96 : decode cX3_isClause 96 = .ok (.invokevirtual 55, 3) := by decide +kernel
theorem dX3_isClause_99 : decode cX3_isClause 99 = .ok (.ifCond .eq 14, 3) := by decide +kernel
theorem dX3_isClause_102 : decode cX3_isClause 102 = .ok (.aload_n 0, 1) := by decide +kernel
theorem dX3_isClause_103 : decode cX3_isClause 103 = .ok (.invokevirtual 40, 3) := by decide +kernel
theorem dX3_isClause_106 : decode cX3_isClause 106 = .ok (.ifCond .eq 7, 3) := by decide +kernel
theorem dX3_isClause_109 : decode cX3_isClause 109 = .ok (.iconst 1, 1) := by decide +kernel
theorem dX3_isClause_110 : decode cX3_isClause 110 = .ok (.goto 4, 3) := by decide +kernel
theorem dX3_isClause_113 : decode cX3_isClause 113 = .ok (.iconst 0, 1) := by decide +kernel
theorem dX3_isClause_114 : decode cX3_isClause 114 = .ok (.ireturn, 1) := by decide +kernel
theorem dX3_isClause_115 : decode cX3_isClause 115 = .ok (.aload_n 0, 1) := by decide +kernel
theorem dX3_isClause_116 : decode cX3_isClause 116 = .ok (.bipush (-12), 2) := by decide +kernel
theorem dX3_isClause_118 : decode cX3_isClause 118 = .ok (.invokevirtual 60, 3) := by decide +kernel
theorem dX3_isClause_121 : decode cX3_isClause 121 = .ok (.iconst 1, 1) := by decide +kernel
theorem dX3_isClause_122 : decode cX3_isClause 122 = .ok (.ireturn, 1) := by decide +kernel
theorem dX3_isAnswerIf_0 : decode cX3_isAnswerIf 0 = .ok (.aload_n 0, 1) := by decide +kernel
theorem dX3_isAnswerIf_1 : decode cX3_isAnswerIf 1 = .ok (.bipush 63, 2) := by decide +kernel
theorem dX3_isAnswerIf_3 : decode cX3_isAnswerIf 3 = .ok (.invokevirtual 23, 3) := by decide +kernel
theorem dX3_isAnswerIf_6 : decode cX3_isAnswerIf 6 = .ok (.ifCond .ne 5, 3) := by decide +kernel
theorem dX3_isAnswerIf_9 : decode cX3_isAnswerIf 9 = .ok (.iconst 0, 1) := by decide +kernel
theorem dX3_isAnswerIf_10 : decode cX3_isAnswerIf 10 = .ok (.ireturn, 1) := by decide +kernel
theorem dX3_isAnswerIf_11 : decode cX3_isAnswerIf 11 = .ok (.aload_n 0, 1) := by decide +kernel
theorem dX3_isAnswerIf_12 : decode cX3_isAnswerIf 12 = .ok (.bipush (-11), 2) := by decide +kernel
theorem dX3_isAnswerIf_14 : decode cX3_isAnswerIf 14 = .ok (.invokevirtual 60, 3) := by decide +kernel
theorem dX3_isAnswerIf_17 : decode cX3_isAnswerIf 17 = .ok (.aload_n 0, 1) := by decide +kernel
theorem dX3_isAnswerIf_18 : decode cX3_isAnswerIf 18 = .ok (.getfield 15, 3) := by decide +kernel
theorem dX3_isAnswerIf_21 : decode cX3_isAnswerIf 21 = .ok (.istore_n 1, 1) := by decide +kernel
theorem dX3_isAnswerIf_22 : decode cX3_isAnswerIf 22 = .ok (.aload_n 0, 1) := by decide +kernel
theorem dX3_isAnswerIf_23 : decode cX3_isAnswerIf 23 = .ok (.iconst 0, 1) := by decide +kernel
theorem dX3_isAnswerIf_24 : decode cX3_isAnswerIf 24 = .ok (.invokevirtual 60, 3) := by decide +kernel
theorem dX3_isAnswerIf_27 : decode cX3_isAnswerIf 27 = .ok (.aload_n 0, 1) := by decide +kernel
theorem dX3_isAnswerIf_28 : decode cX3_isAnswerIf 28 = .ok (.iconst 0, 1) := by decide +kernel
theorem dX3_isAnswerIf_29 : decode cX3_isAnswerIf 29 = .ok (.invokevirtual 43, 3) := by decide +kernel
theorem dX3_isAnswerIf_32 : decode cX3_isAnswerIf 32 = .ok (.ifCond .ne 5, 3) := by decide +kernel
theorem dX3_isAnswerIf_35 : decode cX3_isAnswerIf 35 = .ok (.iconst 0, 1) := by decide +kernel
theorem dX3_isAnswerIf_36 : decode cX3_isAnswerIf 36 = .ok (.ireturn, 1) := by decide +kernel
theorem dX3_isAnswerIf_37 : decode cX3_isAnswerIf 37 = .ok (.aload_n 0, 1) := by decide +kernel
theorem dX3_isAnswerIf_38 : decode cX3_isAnswerIf 38 = .ok (.bipush (-12), 2) := by decide +kernel
theorem dX3_isAnswerIf_40 : decode cX3_isAnswerIf 40 = .ok (.invokevirtual 60, 3) := by decide +kernel
theorem dX3_isAnswerIf_43 : decode cX3_isAnswerIf 43 = .ok (.iload_n 1, 1) := by decide +kernel
theorem dX3_isAnswerIf_44 : decode cX3_isAnswerIf 44 = .ok (.aload_n 0, 1) := by decide +kernel
theorem dX3_isAnswerIf_45 : decode cX3_isAnswerIf 45 = .ok (.getfield 9, 3) := by decide +kernel
theorem dX3_isAnswerIf_48 : decode cX3_isAnswerIf 48 = .ok (.arraylength, 1) := by decide +kernel
theorem dX3_isAnswerIf_49 : decode cX3_isAnswerIf 49 = .ok (.if_icmp .ge 13, 3) := by decide +kernel
theorem dX3_isAnswerIf_52 : decode cX3_isAnswerIf 52 = .ok (.aload_n 0, 1) := by decide +kernel
theorem dX3_isAnswerIf_53 : decode cX3_isAnswerIf 53 = .ok (.getfield 9, 3) := by decide +kernel
theorem dX3_isAnswerIf_56 : decode cX3_isAnswerIf 56 = .ok (.iload_n 1, 1) := by decide +kernel
theorem dX3_isAnswerIf_57 : decode cX3_isAnswerIf 57 = .ok (.aload_n 0, 1) := by decide +kernel
theorem dX3_isAnswerIf_58 : decode cX3_isAnswerIf 58 = .ok (.getfield 15, 3) := by decide +kernel
theorem dX3_isAnswerIf_61 : decode cX3_isAnswerIf 61 = .ok (.iastore, 1) := by decide +kernel
theorem dX3_isAnswerIf_62 : decode cX3_isAnswerIf 62 = .ok (.iconst 1, 1) := by decide +kernel
theorem dX3_isAnswerIf_63 : decode cX3_isAnswerIf 63 = .ok (.ireturn, 1) := by decide +kernel
theorem dX3_isCondition_0 : decode cX3_isCondition 0 = .ok (.aload_n 0, 1) := by decide +kernel
theorem dX3_isCondition_1 : decode cX3_isCondition 1 = .ok (.iload_n 1, 1) := by decide +kernel
theorem dX3_isCondition_2 : decode cX3_isCondition 2 = .ok (.invokevirtual 64, 3) := by decide +kernel
theorem dX3_isCondition_5 : decode cX3_isCondition 5 = .ok (.ifCond .eq 15, 3) := by decide +kernel
theorem dX3_isCondition_8 : decode cX3_isCondition 8 = .ok (.aload_n 0, 1) := by decide +kernel
theorem dX3_isCondition_9 : decode cX3_isCondition 9 = .ok (.iload_n 1, 1) := by decide +kernel
theorem dX3_isCondition_10 : decode cX3_isCondition 10 = .ok (.invokevirtual 55, 3) := by decide +kernel
theorem dX3_isCondition_13 : decode cX3_isCondition 13 = .ok (.ifCond .eq 7, 3) := by decide +kernel
theorem dX3_isCondition_16 : decode cX3_isCondition 16 = .ok (.iconst 1, 1) := by decide +kernel
theorem dX3_isCondition_17 : decode cX3_isCondition 17 = .ok (.goto 4, 3) := by decide +kernel
theorem dX3_isCondition_20 : decode cX3_isCondition 20 = .ok (.iconst 0, 1) := by decide +kernel
theorem dX3_isCondition_21 : decode cX3_isCondition 21 = .ok (.ireturn, 1) := by decide +kernel
theorem dX3_areMoreTruths_0 : decode cX3_areMoreTruths 0 = .ok (.iconst 0, 1) := by decide +kernel
theorem dX3_areMoreTruths_1 : decode cX3_areMoreTruths 1 = .ok (.istore_n 2, 1) := by decide +kernel
theorem dX3_areMoreTruths_2 : decode cX3_areMoreTruths 2 = .ok (.iload_n 2, 1) := by decide +kernel
theorem dX3_areMoreTruths_3 : decode cX3_areMoreTruths 3 = .ok (.sipush 240, 3) := by decide +kernel
theorem dX3_areMoreTruths_6 : decode cX3_areMoreTruths 6 = .ok (.if_icmp .gt 37, 3) := by decide +kernel
theorem dX3_areMoreTruths_9 : decode cX3_areMoreTruths 9 = .ok (.aload_n 0, 1) := by decide +kernel
theorem dX3_areMoreTruths_10 : decode cX3_areMoreTruths 10 = .ok (.bipush 124, 2) := by decide +kernel
theorem dX3_areMoreTruths_12 : decode cX3_areMoreTruths 12 = .ok (.invokevirtual 23, 3) := by decide +kernel
theorem dX3_areMoreTruths_15 : decode cX3_areMoreTruths 15 = .ok (.ifCond .eq 28, 3) := by decide +kernel
theorem dX3_areMoreTruths_18 : decode cX3_areMoreTruths 18 = .ok (.aload_n 0, 1) := by decide +kernel
theorem dX3_areMoreTruths_19 : decode cX3_areMoreTruths 19 = .ok (.iload_n 1, 1) := by decide +kernel
theorem dX3_areMoreTruths_20 : decode cX3_areMoreTruths 20 = .ok (.invokevirtual 64, 3) := by decide +kernel
theorem dX3_areMoreTruths_23 : decode cX3_areMoreTruths 23 = .ok (.ifCond .ne 5, 3) := by decide +kernel
theorem dX3_areMoreTruths_26 : decode cX3_areMoreTruths 26 = .ok (.iconst 0, 1) := by decide +kernel
theorem dX3_areMoreTruths_27 : decode cX3_areMoreTruths 27 = .ok (.ireturn, 1) := by decide +kernel
theorem dX3_areMoreTruths_28 : decode cX3_areMoreTruths 28 = .ok (.aload_n 0, 1) := by decide +kernel
theorem dX3_areMoreTruths_29 : decode cX3_areMoreTruths 29 = .ok (.bipush 124, 2) := by decide +kernel
theorem dX3_areMoreTruths_31 : decode cX3_areMoreTruths 31 = .ok (.invokestatic 67, 3) := by decide +kernel
theorem dX3_areMoreTruths_34 : decode cX3_areMoreTruths 34 = .ok (.invokevirtual 60, 3) := by decide +kernel
theorem dX3_areMoreTruths_37 : decode cX3_areMoreTruths 37 = .ok (.iinc 2 1, 3) := by decide +kernel
theorem dX3_areMoreTruths_40 : decode cX3_areMoreTruths 40 = .ok (.goto (-38), 3) := by decide +kernel
theorem dX3_areMoreTruths_43 : decode cX3_areMoreTruths 43 = .ok (.iconst 1, 1) := by decide +kernel
theorem dX3_areMoreTruths_44 : decode cX3_areMoreTruths 44 = .ok (.ireturn, 1) := by decide +kernel
theorem dX3_isTruth_0 : decode cX3_isTruth 0 = .ok (.aload_n 0, 1) := by decide +kernel
theorem dX3_isTruth_1 : decode cX3_isTruth 1 = .ok (.iload_n 1, 1) := by decide +kernel
theorem dX3_isTruth_2 : decode cX3_isTruth 2 = .ok (.invokevirtual 71, 3) := by decide +kernel
theorem dX3_isTruth_5 : decode cX3_isTruth 5 = .ok (.ifCond .eq 15, 3) := by decide +kernel
theorem dX3_isTruth_8 : decode cX3_isTruth 8 = .ok (.aload_n 0, 1) := by decide +kernel
theorem dX3_isTruth_9 : decode cX3_isTruth 9 = .ok (.iload_n 1, 1) := by decide +kernel
theorem dX3_isTruth_10 : decode cX3_isTruth 10 = .ok (.invokevirtual 52, 3) := by decide +kernel
theorem dX3_isTruth_13 : decode cX3_isTruth 13 = .ok (.ifCond .eq 7, 3) := by decide +kernel
theorem dX3_isTruth_16 : decode cX3_isTruth 16 = .ok (.iconst 1, 1) := by decide +kernel
theorem dX3_isTruth_17 : decode cX3_isTruth 17 = .ok (.goto 4, 3) := by decide +kernel
theorem dX3_isTruth_20 : decode cX3_isTruth 20 = .ok (.iconst 0, 1) := by decide +kernel
theorem dX3_isTruth_21 : decode cX3_isTruth 21 = .ok (.ireturn, 1) := by decide +kernel
theorem dX3_areMoreUnits_0 : decode cX3_areMoreUnits 0 = .ok (.iconst 0, 1) := by decide +kernel
theorem dX3_areMoreUnits_1 : decode cX3_areMoreUnits 1 = .ok (.istore_n 2, 1) := by decide +kernel
theorem dX3_areMoreUnits_2 : decode cX3_areMoreUnits 2 = .ok (.iload_n 2, 1) := by decide +kernel
theorem dX3_areMoreUnits_3 : decode cX3_areMoreUnits 3 = .ok (.sipush 240, 3) := by decide +kernel
theorem dX3_areMoreUnits_6 : decode cX3_areMoreUnits 6 = .ok (.if_icmp .gt 37, 3) := by decide +kernel
theorem dX3_areMoreUnits_9 : decode cX3_areMoreUnits 9 = .ok (.aload_n 0, 1) := by decide +kernel
theorem dX3_areMoreUnits_10 : decode cX3_areMoreUnits 10 = .ok (.bipush 38, 2) := by decide +kernel
theorem dX3_areMoreUnits_12 : decode cX3_areMoreUnits 12 = .ok (.invokevirtual 23, 3) := by decide +kernel
theorem dX3_areMoreUnits_15 : decode cX3_areMoreUnits 15 = .ok (.ifCond .eq 28, 3) := by decide +kernel
theorem dX3_areMoreUnits_18 : decode cX3_areMoreUnits 18 = .ok (.aload_n 0, 1) := by decide +kernel
theorem dX3_areMoreUnits_19 : decode cX3_areMoreUnits 19 = .ok (.iload_n 1, 1) := by decide +kernel
theorem dX3_areMoreUnits_20 : decode cX3_areMoreUnits 20 = .ok (.invokevirtual 71, 3) := by decide +kernel
theorem dX3_areMoreUnits_23 : decode cX3_areMoreUnits 23 = .ok (.ifCond .ne 5, 3) := by decide +kernel
theorem dX3_areMoreUnits_26 : decode cX3_areMoreUnits 26 = .ok (.iconst 0, 1) := by decide +kernel
theorem dX3_areMoreUnits_27 : decode cX3_areMoreUnits 27 = .ok (.ireturn, 1) := by decide +kernel
theorem dX3_areMoreUnits_28 : decode cX3_areMoreUnits 28 = .ok (.aload_n 0, 1) := by decide +kernel
theorem dX3_areMoreUnits_29 : decode cX3_areMoreUnits 29 = .ok (.bipush 38, 2) := by decide +kernel
theorem dX3_areMoreUnits_31 : decode cX3_areMoreUnits 31 = .ok (.invokestatic 67, 3) := by decide +kernel
theorem dX3_areMoreUnits_34 : decode cX3_areMoreUnits 34 = .ok (.invokevirtual 60, 3) := by decide +kernel
theorem dX3_areMoreUnits_37 : decode cX3_areMoreUnits 37 = .ok (.iinc 2 1, 3) := by decide +kernel
theorem dX3_areMoreUnits_40 : decode cX3_areMoreUnits 40 = .ok (.goto (-38), 3) := by decide +kernel
theorem dX3_areMoreUnits_43 : decode cX3_areMoreUnits 43 = .ok (.iconst 1, 1) := by decide +kernel
theorem dX3_areMoreUnits_44 : decode cX3_areMoreUnits 44 = .ok (.ireturn, 1) := by decide +kernel
theorem dX3_isUnit_0 : decode cX3_isUnit 0 = .ok (.aload_n 0, 1) := by decide +kernel
theorem dX3_isUnit_1 : decode cX3_isUnit 1 = .ok (.invokevirtual 27, 3) := by decide +kernel
theorem dX3_isUnit_4 : decode cX3_isUnit 4 = .ok (.istore_n 2, 1) := by decide +kernel
theorem dX3_isUnit_5 : decode cX3_isUnit 5 = .ok (.iload_n 2, 1) := by decide +kernel
theorem dX3_isUnit_6 : decode cX3_isUnit 6 = .ok (.bipush 33, 2) := by decide +kernel
theorem dX3_isUnit_8 : decode cX3_isUnit 8 = .ok (.if_icmp .eq 31, 3) := by decide +kernel
theorem dX3_isUnit_11 : decode cX3_isUnit 11 = .ok (.iload_n 2, 1) := by decide +kernel
theorem dX3_isUnit_12 : decode cX3_isUnit 12 = .ok (.bipush 40, 2) := by decide +kernel
theorem dX3_isUnit_14 : decode cX3_isUnit 14 = .ok (.if_icmp .eq 25, 3) := by decide +kernel
theorem dX3_isUnit_17 : decode cX3_isUnit 17 = .ok (.aload_n 0, 1) := by decide +kernel
theorem dX3_isUnit_18 : decode cX3_isUnit 18 = .ok (.iload_n 1, 1) := by decide +kernel
theorem dX3_isUnit_19 : decode cX3_isUnit 19 = .ok (.invokevirtual 43, 3) := by decide +kernel
theorem dX3_isUnit_22 : decode cX3_isUnit 22 = .ok (.ifCond .eq 15, 3) := by decide +kernel
theorem dX3_isUnit_25 : decode cX3_isUnit 25 = .ok (.aload_n 0, 1) := by decide +kernel
theorem dX3_isUnit_26 : decode cX3_isUnit 26 = .ok (.iload_n 1, 1) := by decide +kernel
theorem dX3_isUnit_27 : decode cX3_isUnit 27 = .ok (.invokevirtual 49, 3) := by decide +kernel
theorem dX3_isUnit_30 : decode cX3_isUnit 30 = .ok (.ifCond .eq 7, 3) := by decide +kernel
theorem dX3_isUnit_33 : decode cX3_isUnit 33 = .ok (.iconst 1, 1) := by decide +kernel
theorem dX3_isUnit_34 : decode cX3_isUnit 34 = .ok (.goto 4, 3) := by decide +kernel
theorem dX3_isUnit_37 : decode cX3_isUnit 37 = .ok (.iconst 0, 1) := by decide +kernel
theorem dX3_isUnit_38 : decode cX3_isUnit 38 = .ok (.ireturn, 1) := by decide +kernel
theorem dX3_isUnit_39 : decode cX3_isUnit 39 = .ok (.iload_n 1, 1) := by decide +kernel
theorem dX3_isUnit_40 : decode cX3_isUnit 40 = .ok (.bipush 6, 2) := by decide +kernel
theorem dX3_isUnit_42 : decode cX3_isUnit 42 = .ok (.if_icmp .lt 5, 3) := by decide +kernel
theorem dX3_isUnit_45 : decode cX3_isUnit 45 = .ok (.iconst 0, 1) := by decide +kernel
theorem dX3_isUnit_46 : decode cX3_isUnit 46 = .ok (.ireturn, 1) := by decide +kernel
theorem dX3_isUnit_47 : decode cX3_isUnit 47 = .ok (.aload_n 0, 1) := by decide +kernel
theorem dX3_isUnit_48 : decode cX3_isUnit 48 = .ok (.dup, 1) := by decide +kernel
theorem dX3_isUnit_49 : decode cX3_isUnit 49 = .ok (.getfield 74, 3) := by decide +kernel
theorem dX3_isUnit_52 : decode cX3_isUnit 52 = .ok (.iconst 1, 1) := by decide +kernel
theorem dX3_isUnit_53 : decode cX3_isUnit 53 = .ok (.iadd, 1) := by decide +kernel
theorem dX3_isUnit_54 : decode cX3_isUnit 54 = .ok (.putfield 74, 3) := by decide +kernel
theorem dX3_isUnit_57 : decode cX3_isUnit 57 = .ok (.iload_n 2, 1) := by decide +kernel
theorem dX3_isUnit_58 : decode cX3_isUnit 58 = .ok (.bipush 40, 2) := by decide +kernel
theorem dX3_isUnit_60 : decode cX3_isUnit 60 = .ok (.if_icmp .ne 28, 3) := by decide +kernel
theorem dX3_isUnit_63 : decode cX3_isUnit 63 = .ok (.aload_n 0, 1) := by decide +kernel
theorem dX3_isUnit_64 : decode cX3_isUnit 64 = .ok (.iload_n 1, 1) := by decide +kernel
theorem dX3_isUnit_65 : decode cX3_isUnit 65 = .ok (.iconst 1, 1) := by decide +kernel
theorem dX3_isUnit_66 : decode cX3_isUnit 66 = .ok (.iadd, 1) := by decide +kernel
theorem dX3_isUnit_67 : decode cX3_isUnit 67 = .ok (.invokevirtual 37, 3) := by decide +kernel
theorem dX3_isUnit_70 : decode cX3_isUnit 70 = .ok (.ifCond .eq 16, 3) := by decide +kernel
theorem dX3_isUnit_73 : decode cX3_isUnit 73 = .ok (.aload_n 0, 1) := by decide +kernel
theorem dX3_isUnit_74 : decode cX3_isUnit 74 = .ok (.bipush 41, 2) := by decide +kernel
theorem dX3_isUnit_76 : decode cX3_isUnit 76 = .ok (.invokevirtual 23, 3) := by decide +kernel
theorem dX3_isUnit_79 : decode cX3_isUnit 79 = .ok (.ifCond .eq 7, 3) := by decide +kernel
theorem dX3_isUnit_82 : decode cX3_isUnit 82 = .ok (.iconst 1, 1) := by decide +kernel
theorem dX3_isUnit_83 : decode cX3_isUnit 83 = .ok (.goto 4, 3) := by decide +kernel
theorem dX3_isUnit_86 : decode cX3_isUnit 86 = .ok (.iconst 0, 1) := by decide +kernel
theorem dX3_isUnit_87 : decode cX3_isUnit 87 = .ok (.ireturn, 1) := by decide +kernel
theorem dX3_isUnit_88 : decode cX3_isUnit 88 = .ok (.aload_n 0, 1) := by decide +kernel
theorem dX3_isUnit_89 : decode cX3_isUnit 89 = .ok (.iload_n 1, 1) := by decide +kernel
theorem dX3_isUnit_90 : decode cX3_isUnit 90 = .ok (.iconst 1, 1) := by decide +kernel
theorem dX3_isUnit_91 : decode cX3_isUnit 91 = .ok (.iadd, 1) := by decide +kernel
theorem dX3_isUnit_92 : decode cX3_isUnit 92 = .ok (.invokevirtual 71, 3) := by decide +kernel
theorem dX3_isUnit_95 : decode cX3_isUnit 95 = .ok (.ifCond .ne 5, 3) := by decide +kernel
theorem dX3_isUnit_98 : decode cX3_isUnit 98 = .ok (.iconst 0, 1) := by decide +kernel
theorem dX3_isUnit_99 : decode cX3_isUnit 99 = .ok (.ireturn, 1) := by decide +kernel
theorem dX3_isUnit_100 : decode cX3_isUnit 100 = .ok (.aload_n 0, 1) := by decide +kernel
theorem dX3_isUnit_101 : decode cX3_isUnit 101 = .ok (.bipush (-10), 2) := by decide +kernel
theorem dX3_isUnit_103 : decode cX3_isUnit 103 = .ok (.invokevirtual 60, 3) := by decide +kernel
theorem dX3_isUnit_106 : decode cX3_isUnit 106 = .ok (.iconst 1, 1) := by decide +kernel
theorem dX3_isUnit_107 : decode cX3_isUnit 107 = .ok (.ireturn, 1) := by decide +kernel
theorem dX3_isComparison_0 : decode cX3_isComparison 0 = .ok (.iload_n 0, 1) := by decide +kernel
theorem dX3_isComparison_1 : decode cX3_isComparison 1 = .ok (.bipush 61, 2) := by decide +kernel
theorem dX3_isComparison_3 : decode cX3_isComparison 3 = .ok (.if_icmp .eq 15, 3) := by decide +kernel
theorem dX3_isComparison_6 : decode cX3_isComparison 6 = .ok (.iload_n 0, 1) := by decide +kernel
theorem dX3_isComparison_7 : decode cX3_isComparison 7 = .ok (.bipush 60, 2) := by decide +kernel
theorem dX3_isComparison_9 : decode cX3_isComparison 9 = .ok (.if_icmp .eq 9, 3) := by decide +kernel
theorem dX3_isComparison_12 : decode cX3_isComparison 12 = .ok (.iload_n 0, 1) := by decide +kernel
theorem dX3_isComparison_13 : decode cX3_isComparison 13 = .ok (.bipush 62, 2) := by decide +kernel
theorem dX3_isComparison_15 : decode cX3_isComparison 15 = .ok (.if_icmp .ne 7, 3) := by decide +kernel
theorem dX3_isComparison_18 : decode cX3_isComparison 18 = .ok (.iconst 1, 1) := by decide +kernel
theorem dX3_isComparison_19 : decode cX3_isComparison 19 = .ok (.goto 4, 3) := by decide +kernel
theorem dX3_isComparison_22 : decode cX3_isComparison 22 = .ok (.iconst 0, 1) := by decide +kernel
theorem dX3_isComparison_23 : decode cX3_isComparison 23 = .ok (.ireturn, 1) := by decide +kernel
theorem dX3_isCompared_0 : decode cX3_isCompared 0 = .ok (.aload_n 0, 1) := by decide +kernel
theorem dX3_isCompared_1 : decode cX3_isCompared 1 = .ok (.invokevirtual 27, 3) := by decide +kernel
theorem dX3_isCompared_4 : decode cX3_isCompared 4 = .ok (.istore_n 2, 1) := by decide +kernel
theorem dX3_isCompared_5 : decode cX3_isCompared 5 = .ok (.iload_n 2, 1) := by decide +kernel
theorem dX3_isCompared_6 : decode cX3_isCompared 6 = .ok (.invokestatic 46, 3) := by decide +kernel
theorem dX3_isCompared_9 : decode cX3_isCompared 9 = .ok (.ifCond .ne 5, 3) := by decide +kernel
theorem dX3_isCompared_12 : decode cX3_isCompared 12 = .ok (.iconst 0, 1) := by decide +kernel
theorem dX3_isCompared_13 : decode cX3_isCompared 13 = .ok (.ireturn, 1) := by decide +kernel
theorem dX3_isCompared_14 : decode cX3_isCompared 14 = .ok (.aload_n 0, 1) := by decide +kernel
theorem dX3_isCompared_15 : decode cX3_isCompared 15 = .ok (.dup, 1) := by decide +kernel
theorem dX3_isCompared_16 : decode cX3_isCompared 16 = .ok (.getfield 74, 3) := by decide +kernel
theorem dX3_isCompared_19 : decode cX3_isCompared 19 = .ok (.iconst 1, 1) := by decide +kernel
theorem dX3_isCompared_20 : decode cX3_isCompared 20 = .ok (.iadd, 1) := by decide +kernel
theorem dX3_isCompared_21 : decode cX3_isCompared 21 = .ok (.putfield 74, 3) := by decide +kernel
theorem dX3_isCompared_24 : decode cX3_isCompared 24 = .ok (.aload_n 0, 1) := by decide +kernel
theorem dX3_isCompared_25 : decode cX3_isCompared 25 = .ok (.iload_n 1, 1) := by decide +kernel
theorem dX3_isCompared_26 : decode cX3_isCompared 26 = .ok (.invokevirtual 43, 3) := by decide +kernel
theorem dX3_isCompared_29 : decode cX3_isCompared 29 = .ok (.ifCond .ne 5, 3) := by decide +kernel
theorem dX3_isCompared_32 : decode cX3_isCompared 32 = .ok (.iconst 0, 1) := by decide +kernel
theorem dX3_isCompared_33 : decode cX3_isCompared 33 = .ok (.ireturn, 1) := by decide +kernel
theorem dX3_isCompared_34 : decode cX3_isCompared 34 = .ok (.aload_n 0, 1) := by decide +kernel
theorem dX3_isCompared_35 : decode cX3_isCompared 35 = .ok (.iload_n 2, 1) := by decide +kernel
theorem dX3_isCompared_36 : decode cX3_isCompared 36 = .ok (.invokestatic 67, 3) := by decide +kernel
theorem dX3_isCompared_39 : decode cX3_isCompared 39 = .ok (.invokevirtual 60, 3) := by decide +kernel
theorem dX3_isCompared_42 : decode cX3_isCompared 42 = .ok (.iconst 1, 1) := by decide +kernel
theorem dX3_isCompared_43 : decode cX3_isCompared 43 = .ok (.ireturn, 1) := by decide +kernel
theorem dX3_isSum_0 : decode cX3_isSum 0 = .ok (.aload_n 0, 1) := by decide +kernel
theorem dX3_isSum_1 : decode cX3_isSum 1 = .ok (.iload_n 1, 1) := by decide +kernel
theorem dX3_isSum_2 : decode cX3_isSum 2 = .ok (.invokevirtual 77, 3) := by decide +kernel
theorem dX3_isSum_5 : decode cX3_isSum 5 = .ok (.ifCond .ne 5, 3) := by decide +kernel
theorem dX3_isSum_8 : decode cX3_isSum 8 = .ok (.iconst 0, 1) := by decide +kernel
theorem dX3_isSum_9 : decode cX3_isSum 9 = .ok (.ireturn, 1) := by decide +kernel
theorem dX3_isSum_10 : decode cX3_isSum 10 = .ok (.aload_n 0, 1) := by decide +kernel
theorem dX3_isSum_11 : decode cX3_isSum 11 = .ok (.invokevirtual 27, 3) := by decide +kernel
theorem dX3_isSum_14 : decode cX3_isSum 14 = .ok (.istore_n 2, 1) := by decide +kernel
theorem dX3_isSum_15 : decode cX3_isSum 15 = .ok (.iconst 0, 1) := by decide +kernel
theorem dX3_isSum_16 : decode cX3_isSum 16 = .ok (.istore_n 3, 1) := by decide +kernel
theorem dX3_isSum_17 : decode cX3_isSum 17 = .ok (.iload_n 3, 1) := by decide +kernel
theorem dX3_isSum_18 : decode cX3_isSum 18 = .ok (.sipush 240, 3) := by decide +kernel
theorem dX3_isSum_21 : decode cX3_isSum 21 = .ok (.if_icmp .gt 54, 3) := by decide +kernel
theorem dX3_isSum_24 : decode cX3_isSum 24 = .ok (.iload_n 2, 1) := by decide +kernel
theorem dX3_isSum_25 : decode cX3_isSum 25 = .ok (.bipush 43, 2) := by decide +kernel
theorem dX3_isSum_27 : decode cX3_isSum 27 = .ok (.if_icmp .eq 9, 3) := by decide +kernel
theorem dX3_isSum_30 : decode cX3_isSum 30 = .ok (.iload_n 2, 1) := by decide +kernel
theorem dX3_isSum_31 : decode cX3_isSum 31 = .ok (.bipush 45, 2) := by decide +kernel
theorem dX3_isSum_33 : decode cX3_isSum 33 = .ok (.if_icmp .ne 42, 3) := by decide +kernel
theorem dX3_isSum_36 : decode cX3_isSum 36 = .ok (.aload_n 0, 1) := by decide +kernel
theorem dX3_isSum_37 : decode cX3_isSum 37 = .ok (.dup, 1) := by decide +kernel
theorem dX3_isSum_38 : decode cX3_isSum 38 = .ok (.getfield 74, 3) := by decide +kernel
theorem dX3_isSum_41 : decode cX3_isSum 41 = .ok (.iconst 1, 1) := by decide +kernel
theorem dX3_isSum_42 : decode cX3_isSum 42 = .ok (.iadd, 1) := by decide +kernel
theorem dX3_isSum_43 : decode cX3_isSum 43 = .ok (.putfield 74, 3) := by decide +kernel
theorem dX3_isSum_46 : decode cX3_isSum 46 = .ok (.aload_n 0, 1) := by decide +kernel
theorem dX3_isSum_47 : decode cX3_isSum 47 = .ok (.iload_n 1, 1) := by decide +kernel
theorem dX3_isSum_48 : decode cX3_isSum 48 = .ok (.invokevirtual 77, 3) := by decide +kernel
theorem dX3_isSum_51 : decode cX3_isSum 51 = .ok (.ifCond .ne 5, 3) := by decide +kernel
theorem dX3_isSum_54 : decode cX3_isSum 54 = .ok (.iconst 0, 1) := by decide +kernel
theorem dX3_isSum_55 : decode cX3_isSum 55 = .ok (.ireturn, 1) := by decide +kernel
theorem dX3_isSum_56 : decode cX3_isSum 56 = .ok (.aload_n 0, 1) := by decide +kernel
theorem dX3_isSum_57 : decode cX3_isSum 57 = .ok (.iload_n 2, 1) := by decide +kernel
theorem dX3_isSum_58 : decode cX3_isSum 58 = .ok (.invokestatic 67, 3) := by decide +kernel
theorem dX3_isSum_61 : decode cX3_isSum 61 = .ok (.invokevirtual 60, 3) := by decide +kernel
theorem dX3_isSum_64 : decode cX3_isSum 64 = .ok (.aload_n 0, 1) := by decide +kernel
theorem dX3_isSum_65 : decode cX3_isSum 65 = .ok (.invokevirtual 27, 3) := by decide +kernel
theorem dX3_isSum_68 : decode cX3_isSum 68 = .ok (.istore_n 2, 1) := by decide +kernel
theorem dX3_isSum_69 : decode cX3_isSum 69 = .ok (.iinc 3 1, 3) := by decide +kernel
theorem dX3_isSum_72 : decode cX3_isSum 72 = .ok (.goto (-55), 3) := by decide +kernel
theorem dX3_isSum_75 : decode cX3_isSum 75 = .ok (.iconst 1, 1) := by decide +kernel
theorem dX3_isSum_76 : decode cX3_isSum 76 = .ok (.ireturn, 1) := by decide +kernel
theorem dX3_isTerm_0 : decode cX3_isTerm 0 = .ok (.aload_n 0, 1) := by decide +kernel
theorem dX3_isTerm_1 : decode cX3_isTerm 1 = .ok (.iload_n 1, 1) := by decide +kernel
theorem dX3_isTerm_2 : decode cX3_isTerm 2 = .ok (.invokevirtual 80, 3) := by decide +kernel
theorem dX3_isTerm_5 : decode cX3_isTerm 5 = .ok (.ifCond .ne 5, 3) := by decide +kernel
theorem dX3_isTerm_8 : decode cX3_isTerm 8 = .ok (.iconst 0, 1) := by decide +kernel
theorem dX3_isTerm_9 : decode cX3_isTerm 9 = .ok (.ireturn, 1) := by decide +kernel
theorem dX3_isTerm_10 : decode cX3_isTerm 10 = .ok (.aload_n 0, 1) := by decide +kernel
theorem dX3_isTerm_11 : decode cX3_isTerm 11 = .ok (.invokevirtual 27, 3) := by decide +kernel
theorem dX3_isTerm_14 : decode cX3_isTerm 14 = .ok (.istore_n 2, 1) := by decide +kernel
theorem dX3_isTerm_15 : decode cX3_isTerm 15 = .ok (.iconst 0, 1) := by decide +kernel
theorem dX3_isTerm_16 : decode cX3_isTerm 16 = .ok (.istore_n 3, 1) := by decide +kernel
theorem dX3_isTerm_17 : decode cX3_isTerm 17 = .ok (.iload_n 3, 1) := by decide +kernel
theorem dX3_isTerm_18 : decode cX3_isTerm 18 = .ok (.sipush 240, 3) := by decide +kernel
theorem dX3_isTerm_21 : decode cX3_isTerm 21 = .ok (.if_icmp .gt 54, 3) := by decide +kernel
theorem dX3_isTerm_24 : decode cX3_isTerm 24 = .ok (.iload_n 2, 1) := by decide +kernel
theorem dX3_isTerm_25 : decode cX3_isTerm 25 = .ok (.bipush 42, 2) := by decide +kernel
theorem dX3_isTerm_27 : decode cX3_isTerm 27 = .ok (.if_icmp .eq 9, 3) := by decide +kernel
theorem dX3_isTerm_30 : decode cX3_isTerm 30 = .ok (.iload_n 2, 1) := by decide +kernel
theorem dX3_isTerm_31 : decode cX3_isTerm 31 = .ok (.bipush 47, 2) := by decide +kernel
theorem dX3_isTerm_33 : decode cX3_isTerm 33 = .ok (.if_icmp .ne 42, 3) := by decide +kernel
theorem dX3_isTerm_36 : decode cX3_isTerm 36 = .ok (.aload_n 0, 1) := by decide +kernel
theorem dX3_isTerm_37 : decode cX3_isTerm 37 = .ok (.dup, 1) := by decide +kernel
theorem dX3_isTerm_38 : decode cX3_isTerm 38 = .ok (.getfield 74, 3) := by decide +kernel
theorem dX3_isTerm_41 : decode cX3_isTerm 41 = .ok (.iconst 1, 1) := by decide +kernel
theorem dX3_isTerm_42 : decode cX3_isTerm 42 = .ok (.iadd, 1) := by decide +kernel
theorem dX3_isTerm_43 : decode cX3_isTerm 43 = .ok (.putfield 74, 3) := by decide +kernel
theorem dX3_isTerm_46 : decode cX3_isTerm 46 = .ok (.aload_n 0, 1) := by decide +kernel
theorem dX3_isTerm_47 : decode cX3_isTerm 47 = .ok (.iload_n 1, 1) := by decide +kernel
theorem dX3_isTerm_48 : decode cX3_isTerm 48 = .ok (.invokevirtual 80, 3) := by decide +kernel
theorem dX3_isTerm_51 : decode cX3_isTerm 51 = .ok (.ifCond .ne 5, 3) := by decide +kernel
theorem dX3_isTerm_54 : decode cX3_isTerm 54 = .ok (.iconst 0, 1) := by decide +kernel
theorem dX3_isTerm_55 : decode cX3_isTerm 55 = .ok (.ireturn, 1) := by decide +kernel
theorem dX3_isTerm_56 : decode cX3_isTerm 56 = .ok (.aload_n 0, 1) := by decide +kernel
theorem dX3_isTerm_57 : decode cX3_isTerm 57 = .ok (.iload_n 2, 1) := by decide +kernel
theorem dX3_isTerm_58 : decode cX3_isTerm 58 = .ok (.invokestatic 67, 3) := by decide +kernel
theorem dX3_isTerm_61 : decode cX3_isTerm 61 = .ok (.invokevirtual 60, 3) := by decide +kernel
theorem dX3_isTerm_64 : decode cX3_isTerm 64 = .ok (.aload_n 0, 1) := by decide +kernel
theorem dX3_isTerm_65 : decode cX3_isTerm 65 = .ok (.invokevirtual 27, 3) := by decide +kernel
theorem dX3_isTerm_68 : decode cX3_isTerm 68 = .ok (.istore_n 2, 1) := by decide +kernel
theorem dX3_isTerm_69 : decode cX3_isTerm 69 = .ok (.iinc 3 1, 3) := by decide +kernel
theorem dX3_isTerm_72 : decode cX3_isTerm 72 = .ok (.goto (-55), 3) := by decide +kernel
theorem dX3_isTerm_75 : decode cX3_isTerm 75 = .ok (.iconst 1, 1) := by decide +kernel
theorem dX3_isTerm_76 : decode cX3_isTerm 76 = .ok (.ireturn, 1) := by decide +kernel
theorem dX3_isAtom_0 : decode cX3_isAtom 0 = .ok (.aload_n 0, 1) := by decide +kernel
theorem dX3_isAtom_1 : decode cX3_isAtom 1 = .ok (.invokevirtual 27, 3) := by decide +kernel
theorem dX3_isAtom_4 : decode cX3_isAtom 4 = .ok (.istore_n 2, 1) := by decide +kernel
theorem dX3_isAtom_5 : decode cX3_isAtom 5 = .ok (.iload_n 2, 1) := by decide +kernel
theorem dX3_isAtom_6 : decode cX3_isAtom 6 = .ok (.bipush 91, 2) := by decide +kernel
theorem dX3_isAtom_8 : decode cX3_isAtom 8 = .ok (.if_icmp .ne 46, 3) := by decide +kernel
theorem dX3_isAtom_11 : decode cX3_isAtom 11 = .ok (.iload_n 1, 1) := by decide +kernel
theorem dX3_isAtom_12 : decode cX3_isAtom 12 = .ok (.bipush 6, 2) := by decide +kernel
theorem dX3_isAtom_14 : decode cX3_isAtom 14 = .ok (.if_icmp .lt 5, 3) := by decide +kernel
theorem dX3_isAtom_17 : decode cX3_isAtom 17 = .ok (.iconst 0, 1) := by decide +kernel
theorem dX3_isAtom_18 : decode cX3_isAtom 18 = .ok (.ireturn, 1) := by decide +kernel
theorem dX3_isAtom_19 : decode cX3_isAtom 19 = .ok (.aload_n 0, 1) := by decide +kernel
theorem dX3_isAtom_20 : decode cX3_isAtom 20 = .ok (.dup, 1) := by decide +kernel
theorem dX3_isAtom_21 : decode cX3_isAtom 21 = .ok (.getfield 74, 3) := by decide +kernel
theorem dX3_isAtom_24 : decode cX3_isAtom 24 = .ok (.iconst 1, 1) := by decide +kernel
theorem dX3_isAtom_25 : decode cX3_isAtom 25 = .ok (.iadd, 1) := by decide +kernel
theorem dX3_isAtom_26 : decode cX3_isAtom 26 = .ok (.putfield 74, 3) := by decide +kernel
theorem dX3_isAtom_29 : decode cX3_isAtom 29 = .ok (.aload_n 0, 1) := by decide +kernel
theorem dX3_isAtom_30 : decode cX3_isAtom 30 = .ok (.iload_n 1, 1) := by decide +kernel
theorem dX3_isAtom_31 : decode cX3_isAtom 31 = .ok (.iconst 1, 1) := by decide +kernel
theorem dX3_isAtom_32 : decode cX3_isAtom 32 = .ok (.iadd, 1) := by decide +kernel
theorem dX3_isAtom_33 : decode cX3_isAtom 33 = .ok (.invokevirtual 43, 3) := by decide +kernel
theorem dX3_isAtom_36 : decode cX3_isAtom 36 = .ok (.ifCond .eq 16, 3) := by decide +kernel
theorem dX3_isAtom_39 : decode cX3_isAtom 39 = .ok (.aload_n 0, 1) := by decide +kernel
theorem dX3_isAtom_40 : decode cX3_isAtom 40 = .ok (.bipush 93, 2) := by decide +kernel
theorem dX3_isAtom_42 : decode cX3_isAtom 42 = .ok (.invokevirtual 23, 3) := by decide +kernel
theorem dX3_isAtom_45 : decode cX3_isAtom 45 = .ok (.ifCond .eq 7, 3) := by decide +kernel
theorem dX3_isAtom_48 : decode cX3_isAtom 48 = .ok (.iconst 1, 1) := by decide +kernel
theorem dX3_isAtom_49 : decode cX3_isAtom 49 = .ok (.goto 4, 3) := by decide +kernel
theorem dX3_isAtom_52 : decode cX3_isAtom 52 = .ok (.iconst 0, 1) := by decide +kernel
theorem dX3_isAtom_53 : decode cX3_isAtom 53 = .ok (.ireturn, 1) := by decide +kernel
theorem dX3_isAtom_54 : decode cX3_isAtom 54 = .ok (.ldc 83, 2) := by decide +kernel
theorem dX3_isAtom_56 : decode cX3_isAtom 56 = .ok (.iload_n 2, 1) := by decide +kernel
theorem dX3_isAtom_57 : decode cX3_isAtom 57 = .ok (.invokestatic 85, 3) := by decide +kernel
theorem dX3_isAtom_60 : decode cX3_isAtom 60 = .ok (.istore_n 3, 1) := by decide +kernel
theorem dX3_isAtom_61 : decode cX3_isAtom 61 = .ok (.iload_n 3, 1) := by decide +kernel
theorem dX3_isAtom_62 : decode cX3_isAtom 62 = .ok (.ifCond .lt 23, 3) := by decide +kernel
theorem dX3_isAtom_65 : decode cX3_isAtom 65 = .ok (.aload_n 0, 1) := by decide +kernel
theorem dX3_isAtom_66 : decode cX3_isAtom 66 = .ok (.dup, 1) := by decide +kernel
theorem dX3_isAtom_67 : decode cX3_isAtom 67 = .ok (.getfield 74, 3) := by decide +kernel
theorem dX3_isAtom_70 : decode cX3_isAtom 70 = .ok (.iconst 1, 1) := by decide +kernel
theorem dX3_isAtom_71 : decode cX3_isAtom 71 = .ok (.iadd, 1) := by decide +kernel
theorem dX3_isAtom_72 : decode cX3_isAtom 72 = .ok (.putfield 74, 3) := by decide +kernel
theorem dX3_isAtom_75 : decode cX3_isAtom 75 = .ok (.aload_n 0, 1) := by decide +kernel
theorem dX3_isAtom_76 : decode cX3_isAtom 76 = .ok (.iload_n 3, 1) := by decide +kernel
theorem dX3_isAtom_77 : decode cX3_isAtom 77 = .ok (.invokestatic 89, 3) := by decide +kernel
theorem dX3_isAtom_80 : decode cX3_isAtom 80 = .ok (.invokevirtual 60, 3) := by decide +kernel
theorem dX3_isAtom_83 : decode cX3_isAtom 83 = .ok (.iconst 1, 1) := by decide +kernel
theorem dX3_isAtom_84 : decode cX3_isAtom 84 = .ok (.ireturn, 1) := by decide +kernel
theorem dX3_isAtom_85 : decode cX3_isAtom 85 = .ok (.aload_n 0, 1) := by decide +kernel
theorem dX3_isAtom_86 : decode cX3_isAtom 86 = .ok (.iconst 4, 1) := by decide +kernel
theorem dX3_isAtom_87 : decode cX3_isAtom 87 = .ok (.iconst 0, 1) := by decide +kernel
theorem dX3_isAtom_88 : decode cX3_isAtom 88 = .ok (.sipush 9999, 3) := by decide +kernel
theorem dX3_isAtom_91 : decode cX3_isAtom 91 = .ok (.invokevirtual 92, 3) := by decide +kernel
theorem dX3_isAtom_94 : decode cX3_isAtom 94 = .ok (.istore 4, 2) := by decide +kernel
theorem dX3_isAtom_96 : decode cX3_isAtom 96 = .ok (.iload 4, 2) := by decide +kernel
theorem dX3_isAtom_98 : decode cX3_isAtom 98 = .ok (.iconst (-1), 1) := by decide +kernel
theorem dX3_isAtom_99 : decode cX3_isAtom 99 = .ok (.if_icmp .ne 5, 3) := by decide +kernel
theorem dX3_isAtom_102 : decode cX3_isAtom 102 = .ok (.iconst 0, 1) := by decide +kernel
theorem dX3_isAtom_103 : decode cX3_isAtom 103 = .ok (.ireturn, 1) := by decide +kernel
theorem dX3_isAtom_104 : decode cX3_isAtom 104 = .ok (.aload_n 0, 1) := by decide +kernel
theorem dX3_isAtom_105 : decode cX3_isAtom 105 = .ok (.iload 4, 2) := by decide +kernel
theorem dX3_isAtom_107 : decode cX3_isAtom 107 = .ok (.invokevirtual 60, 3) := by decide +kernel
theorem dX3_isAtom_110 : decode cX3_isAtom 110 = .ok (.iconst 1, 1) := by decide +kernel
theorem dX3_isAtom_111 : decode cX3_isAtom 111 = .ok (.ireturn, 1) := by decide +kernel
theorem dX4_init_0 : decode cX4_init 0 = .ok (.aload_n 0, 1) := by decide +kernel
theorem dX4_init_1 : decode cX4_init 1 = .ok (.invokespecial 3, 3) := by decide +kernel
theorem dX4_init_4 : decode cX4_init 4 = .ok (.aload_n 0, 1) := by decide +kernel
theorem dX4_init_5 : decode cX4_init 5 = .ok (.bipush 10, 2) := by decide +kernel
theorem dX4_init_7 : decode cX4_init 7 = .ok (.newarray .int, 2) := by decide +kernel
theorem dX4_init_9 : decode cX4_init 9 = .ok (.putfield 9, 3) := by decide +kernel
theorem dX4_init_12 : decode cX4_init 12 = .ok (.aload_n 0, 1) := by decide +kernel
theorem dX4_init_13 : decode cX4_init 13 = .ok (.bipush 10, 2) := by decide +kernel
theorem dX4_init_15 : decode cX4_init 15 = .ok (.newarray .int, 2) := by decide +kernel
theorem dX4_init_17 : decode cX4_init 17 = .ok (.putfield 15, 3) := by decide +kernel
theorem dX4_init_20 : decode cX4_init 20 = .ok (.aload_n 0, 1) := by decide +kernel
theorem dX4_init_21 : decode cX4_init 21 = .ok (.bipush 10, 2) := by decide +kernel
theorem dX4_init_23 : decode cX4_init 23 = .ok (.newarray .boolean, 2) := by decide +kernel
theorem dX4_init_25 : decode cX4_init 25 = .ok (.putfield 18, 3) := by decide +kernel
theorem dX4_init_28 : decode cX4_init 28 = .ok (.aload_n 0, 1) := by decide +kernel
theorem dX4_init_29 : decode cX4_init 29 = .ok (.iconst 0, 1) := by decide +kernel
theorem dX4_init_30 : decode cX4_init 30 = .ok (.putfield 22, 3) := by decide +kernel
theorem dX4_init_33 : decode cX4_init 33 = .ok (.aload_n 0, 1) := by decide +kernel
theorem dX4_init_34 : decode cX4_init 34 = .ok (.sipush 960, 3) := by decide +kernel
theorem dX4_init_37 : decode cX4_init 37 = .ok (.newarray .int, 2) := by decide +kernel
theorem dX4_init_39 : decode cX4_init 39 = .ok (.putfield 26, 3) := by decide +kernel
theorem dX4_init_42 : decode cX4_init 42 = .ok (.aload_n 0, 1) := by decide +kernel
theorem dX4_init_43 : decode cX4_init 43 = .ok (.iconst 0, 1) := by decide +kernel
theorem dX4_init_44 : decode cX4_init 44 = .ok (.putfield 29, 3) := by decide +kernel
theorem dX4_init_47 : decode cX4_init 47 = .ok (.aload_n 0, 1) := by decide +kernel
theorem dX4_init_48 : decode cX4_init 48 = .ok (.bipush 27, 2) := by decide +kernel
theorem dX4_init_50 : decode cX4_init 50 = .ok (.newarray .int, 2) := by decide +kernel
theorem dX4_init_52 : decode cX4_init 52 = .ok (.putfield 32, 3) := by decide +kernel
theorem dX4_init_55 : decode cX4_init 55 = .ok (.return_, 1) := by decide +kernel
theorem dX4_clear_0 : decode cX4_clear 0 = .ok (.aload_n 0, 1) := by decide +kernel
theorem dX4_clear_1 : decode cX4_clear 1 = .ok (.iconst 0, 1) := by decide +kernel
theorem dX4_clear_2 : decode cX4_clear 2 = .ok (.putfield 22, 3) := by decide +kernel
theorem dX4_clear_5 : decode cX4_clear 5 = .ok (.return_, 1) := by decide +kernel
theorem dX4_add_0 : decode cX4_add 0 = .ok (.aload_n 0, 1) := by decide +kernel
theorem dX4_add_1 : decode cX4_add 1 = .ok (.getfield 22, 3) := by decide +kernel
theorem dX4_add_4 : decode cX4_add 4 = .ok (.bipush 10, 2) := by decide +kernel
theorem dX4_add_6 : decode cX4_add 6 = .ok (.if_icmp .lt 5, 3) := by decide +kernel
theorem dX4_add_9 : decode cX4_add 9 = .ok (.iconst (-1), 1) := by decide +kernel
theorem dX4_add_10 : decode cX4_add 10 = .ok (.ireturn, 1) := by decide +kernel
theorem dX4_add_11 : decode cX4_add 11 = .ok (.aload_n 0, 1) := by decide +kernel
theorem dX4_add_12 : decode cX4_add 12 = .ok (.getfield 9, 3) := by decide +kernel
theorem dX4_add_15 : decode cX4_add 15 = .ok (.aload_n 0, 1) := by decide +kernel
theorem dX4_add_16 : decode cX4_add 16 = .ok (.getfield 22, 3) := by decide +kernel
theorem dX4_add_19 : decode cX4_add 19 = .ok (.iload_n 1, 1) := by decide +kernel
theorem dX4_add_20 : decode cX4_add 20 = .ok (.iastore, 1) := by decide +kernel
theorem dX4_add_21 : decode cX4_add 21 = .ok (.aload_n 0, 1) := by decide +kernel
theorem dX4_add_22 : decode cX4_add 22 = .ok (.getfield 15, 3) := by decide +kernel
theorem dX4_add_25 : decode cX4_add 25 = .ok (.aload_n 0, 1) := by decide +kernel
theorem dX4_add_26 : decode cX4_add 26 = .ok (.getfield 22, 3) := by decide +kernel
theorem dX4_add_29 : decode cX4_add 29 = .ok (.iload_n 2, 1) := by decide +kernel
theorem dX4_add_30 : decode cX4_add 30 = .ok (.iastore, 1) := by decide +kernel
theorem dX4_add_31 : decode cX4_add 31 = .ok (.aload_n 0, 1) := by decide +kernel
theorem dX4_add_32 : decode cX4_add 32 = .ok (.getfield 18, 3) := by decide +kernel
theorem dX4_add_35 : decode cX4_add 35 = .ok (.aload_n 0, 1) := by decide +kernel
theorem dX4_add_36 : decode cX4_add 36 = .ok (.getfield 22, 3) := by decide +kernel
theorem dX4_add_39 : decode cX4_add 39 = .ok (.iload_n 3, 1) := by decide +kernel
theorem dX4_add_40 : decode cX4_add 40 = .ok (.bastore, 1) := by decide +kernel
theorem dX4_add_41 : decode cX4_add 41 = .ok (.aload_n 0, 1) := by decide +kernel
theorem dX4_add_42 : decode cX4_add 42 = .ok (.dup, 1) := by decide +kernel
theorem dX4_add_43 : decode cX4_add 43 = .ok (.getfield 22, 3) := by decide +kernel
theorem dX4_add_46 : decode cX4_add 46 = .ok (.iconst 1, 1) := by decide +kernel
theorem dX4_add_47 : decode cX4_add 47 = .ok (.iadd, 1) := by decide +kernel
theorem dX4_add_48 : decode cX4_add 48 = .ok (.putfield 22, 3) := by decide +kernel
theorem dX4_add_51 : decode cX4_add 51 = .ok (.aload_n 0, 1) := by decide +kernel
theorem dX4_add_52 : decode cX4_add 52 = .ok (.getfield 22, 3) := by decide +kernel
theorem dX4_add_55 : decode cX4_add 55 = .ok (.ireturn, 1) := by decide +kernel
theorem dX4_find_0 : decode cX4_find 0 = .ok (.aload_n 0, 1) := by decide +kernel
theorem dX4_find_1 : decode cX4_find 1 = .ok (.iconst 0, 1) := by decide +kernel
theorem dX4_find_2 : decode cX4_find 2 = .ok (.putfield 29, 3) := by decide +kernel
theorem dX4_find_5 : decode cX4_find 5 = .ok (.iconst 0, 1) := by decide +kernel
theorem dX4_find_6 : decode cX4_find 6 = .ok (.istore_n 2, 1) := by decide +kernel
theorem dX4_find_7 : decode cX4_find 7 = .ok (.iload_n 2, 1) := by decide +kernel
theorem dX4_find_8 : decode cX4_find 8 = .ok (.aload_n 1, 1) := by decide +kernel
theorem dX4_find_9 : decode cX4_find 9 = .ok (.arraylength, 1) := by decide +kernel
theorem dX4_find_10 : decode cX4_find 10 = .ok (.if_icmp .ge 106, 3) := by decide +kernel
theorem dX4_find_13 : decode cX4_find 13 = .ok (.iconst 0, 1) := by decide +kernel
theorem dX4_find_14 : decode cX4_find 14 = .ok (.istore_n 3, 1) := by decide +kernel
theorem dX4_find_15 : decode cX4_find 15 = .ok (.iload_n 3, 1) := by decide +kernel
theorem dX4_find_16 : decode cX4_find 16 = .ok (.bipush 9, 2) := by decide +kernel
theorem dX4_find_18 : decode cX4_find 18 = .ok (.if_icmp .gt 92, 3) := by decide +kernel
theorem dX4_find_21 : decode cX4_find 21 = .ok (.aload_n 1, 1) := by decide +kernel
theorem dX4_find_22 : decode cX4_find 22 = .ok (.iload_n 2, 1) := by decide +kernel
theorem dX4_find_23 : decode cX4_find 23 = .ok (.aaload, 1) := by decide +kernel
theorem dX4_find_24 : decode cX4_find 24 = .ok (.ifnull 86, 3) := by decide +kernel
theorem dX4_find_27 : decode cX4_find 27 = .ok (.iconst 0, 1) := by decide +kernel
theorem dX4_find_28 : decode cX4_find 28 = .ok (.istore 4, 2) := by decide +kernel
theorem dX4_find_30 : decode cX4_find 30 = .ok (.iload 4, 2) := by decide +kernel
theorem dX4_find_32 : decode cX4_find 32 = .ok (.aload_n 1, 1) := by decide +kernel
theorem dX4_find_33 : decode cX4_find 33 = .ok (.iload_n 2, 1) := by decide +kernel
theorem dX4_find_34 : decode cX4_find 34 = .ok (.aaload, 1) := by decide +kernel
theorem dX4_find_35 : decode cX4_find 35 = .ok (.invokevirtual 35, 3) := by decide +kernel
theorem dX4_find_38 : decode cX4_find 38 = .ok (.if_icmp .ge 66, 3) := by decide +kernel
theorem dX4_find_41 : decode cX4_find 41 = .ok (.aload_n 0, 1) := by decide +kernel
theorem dX4_find_42 : decode cX4_find 42 = .ok (.aload_n 1, 1) := by decide +kernel
theorem dX4_find_43 : decode cX4_find 43 = .ok (.iload_n 2, 1) := by decide +kernel
theorem dX4_find_44 : decode cX4_find 44 = .ok (.aaload, 1) := by decide +kernel
theorem dX4_find_45 : decode cX4_find 45 = .ok (.iload_n 3, 1) := by decide +kernel
theorem dX4_find_46 : decode cX4_find 46 = .ok (.iload 4, 2) := by decide +kernel
theorem dX4_find_48 : decode cX4_find 48 = .ok (.invokevirtual 40, 3) := by decide +kernel
theorem dX4_find_51 : decode cX4_find 51 = .ok (.ifCond .eq 47, 3) := by decide +kernel
theorem dX4_find_54 : decode cX4_find 54 = .ok (.aload_n 0, 1) := by decide +kernel
theorem dX4_find_55 : decode cX4_find 55 = .ok (.getfield 29, 3) := by decide +kernel
theorem dX4_find_58 : decode cX4_find 58 = .ok (.aload_n 0, 1) := by decide +kernel
theorem dX4_find_59 : decode cX4_find 59 = .ok (.getfield 26, 3) := by decide +kernel
theorem dX4_find_62 : decode cX4_find 62 = .ok (.arraylength, 1) := by decide +kernel
theorem dX4_find_63 : decode cX4_find 63 = .ok (.if_icmp .ge 35, 3) := by decide +kernel
theorem dX4_find_66 : decode cX4_find 66 = .ok (.aload_n 0, 1) := by decide +kernel
theorem dX4_find_67 : decode cX4_find 67 = .ok (.getfield 26, 3) := by decide +kernel
theorem dX4_find_70 : decode cX4_find 70 = .ok (.aload_n 0, 1) := by decide +kernel
theorem dX4_find_71 : decode cX4_find 71 = .ok (.getfield 29, 3) := by decide +kernel
theorem dX4_find_74 : decode cX4_find 74 = .ok (.sipush 1000, 3) := by decide +kernel
theorem dX4_find_77 : decode cX4_find 77 = .ok (.iload_n 2, 1) := by decide +kernel
theorem dX4_find_78 : decode cX4_find 78 = .ok (.imul, 1) := by decide +kernel
theorem dX4_find_79 : decode cX4_find 79 = .ok (.bipush 100, 2) := by decide +kernel
theorem dX4_find_81 : decode cX4_find 81 = .ok (.iload_n 3, 1) := by decide +kernel
theorem dX4_find_82 : decode cX4_find 82 = .ok (.imul, 1) := by decide +kernel
theorem dX4_find_83 : decode cX4_find 83 = .ok (.iadd, 1) := by decide +kernel
theorem dX4_find_84 : decode cX4_find 84 = .ok (.iload 4, 2) := by decide +kernel
theorem dX4_find_86 : decode cX4_find 86 = .ok (.iadd, 1) := by decide +kernel
theorem dX4_find_87 : decode cX4_find 87 = .ok (.iastore, 1) := by decide +kernel
theorem dX4_find_88 : decode cX4_find 88 = .ok (.aload_n 0, 1) := by decide +kernel
theorem dX4_find_89 : decode cX4_find 89 = .ok (.dup, 1) := by decide +kernel
theorem dX4_find_90 : decode cX4_find 90 = .ok (.getfield 29, 3) := by decide +kernel
theorem dX4_find_93 : decode cX4_find 93 = .ok (.iconst 1, 1) := by decide +kernel
theorem dX4_find_94 : decode cX4_find 94 = .ok (.iadd, 1) := by decide +kernel
theorem dX4_find_95 : decode cX4_find 95 = .ok (.putfield 29, 3) := by decide +kernel
theorem dX4_find_98 : decode cX4_find 98 = .ok (.iinc 4 1, 3) := by decide +kernel
theorem dX4_find_101 : decode cX4_find 101 = .ok (.goto (-71), 3) := by decide +kernel
theorem dX4_find_104 : decode cX4_find 104 = .ok (.iinc 3 1, 3) := by decide +kernel
theorem dX4_find_107 : decode cX4_find 107 = .ok (.goto (-92), 3) := by decide +kernel
theorem dX4_find_110 : decode cX4_find 110 = .ok (.iinc 2 1, 3) := by decide +kernel
theorem dX4_find_113 : decode cX4_find 113 = .ok (.goto (-106), 3) := by decide +kernel
theorem dX4_find_116 : decode cX4_find 116 = .ok (.return_, 1) := by decide +kernel
theorem dX4_isSo_0 : decode cX4_isSo 0 = .ok (.iconst 1, 1) := by decide +kernel
theorem dX4_isSo_1 : decode cX4_isSo 1 = .ok (.istore 4, 2) := by decide +kernel
theorem dX4_isSo_3 : decode cX4_isSo 3 = .ok (.iconst 0, 1) := by decide +kernel
theorem dX4_isSo_4 : decode cX4_isSo 4 = .ok (.istore 5, 2) := by decide +kernel
theorem dX4_isSo_6 : decode cX4_isSo 6 = .ok (.iload 5, 2) := by decide +kernel
theorem dX4_isSo_8 : decode cX4_isSo 8 = .ok (.aload_n 0, 1) := by decide +kernel
theorem dX4_isSo_9 : decode cX4_isSo 9 = .ok (.getfield 22, 3) := by decide +kernel
theorem dX4_isSo_12 : decode cX4_isSo 12 = .ok (.if_icmp .ge 68, 3) := by decide +kernel
theorem dX4_isSo_15 : decode cX4_isSo 15 = .ok (.iload 5, 2) := by decide +kernel
theorem dX4_isSo_17 : decode cX4_isSo 17 = .ok (.bipush 10, 2) := by decide +kernel
theorem dX4_isSo_19 : decode cX4_isSo 19 = .ok (.if_icmp .ge 61, 3) := by decide +kernel
theorem dX4_isSo_22 : decode cX4_isSo 22 = .ok (.iload 4, 2) := by decide +kernel
theorem dX4_isSo_24 : decode cX4_isSo 24 = .ok (.ifCond .eq 56, 3) := by decide +kernel
theorem dX4_isSo_27 : decode cX4_isSo 27 = .ok (.aload_n 1, 1) := by decide +kernel
theorem dX4_isSo_28 : decode cX4_isSo 28 = .ok (.iload_n 3, 1) := by decide +kernel
theorem dX4_isSo_29 : decode cX4_isSo 29 = .ok (.iload_n 2, 1) := by decide +kernel
theorem dX4_isSo_30 : decode cX4_isSo 30 = .ok (.aload_n 0, 1) := by decide +kernel
theorem dX4_isSo_31 : decode cX4_isSo 31 = .ok (.getfield 9, 3) := by decide +kernel
theorem dX4_isSo_34 : decode cX4_isSo 34 = .ok (.iload 5, 2) := by decide +kernel
theorem dX4_isSo_36 : decode cX4_isSo 36 = .ok (.iaload, 1) := by decide +kernel
theorem dX4_isSo_37 : decode cX4_isSo 37 = .ok (.imul, 1) := by decide +kernel
theorem dX4_isSo_38 : decode cX4_isSo 38 = .ok (.iadd, 1) := by decide +kernel
theorem dX4_isSo_39 : decode cX4_isSo 39 = .ok (.invokevirtual 44, 3) := by decide +kernel
theorem dX4_isSo_42 : decode cX4_isSo 42 = .ok (.aload_n 0, 1) := by decide +kernel
theorem dX4_isSo_43 : decode cX4_isSo 43 = .ok (.getfield 15, 3) := by decide +kernel
theorem dX4_isSo_46 : decode cX4_isSo 46 = .ok (.iload 5, 2) := by decide +kernel
theorem dX4_isSo_48 : decode cX4_isSo 48 = .ok (.iaload, 1) := by decide +kernel
theorem dX4_isSo_49 : decode cX4_isSo 49 = .ok (.if_icmp .ne 7, 3) := by decide +kernel
theorem dX4_isSo_52 : decode cX4_isSo 52 = .ok (.iconst 1, 1) := by decide +kernel
theorem dX4_isSo_53 : decode cX4_isSo 53 = .ok (.goto 4, 3) := by decide +kernel
theorem dX4_isSo_56 : decode cX4_isSo 56 = .ok (.iconst 0, 1) := by decide +kernel
theorem dX4_isSo_57 : decode cX4_isSo 57 = .ok (.aload_n 0, 1) := by decide +kernel
theorem dX4_isSo_58 : decode cX4_isSo 58 = .ok (.getfield 18, 3) := by decide +kernel
theorem dX4_isSo_61 : decode cX4_isSo 61 = .ok (.iload 5, 2) := by decide +kernel
theorem dX4_isSo_63 : decode cX4_isSo 63 = .ok (.baload, 1) := by decide +kernel
theorem dX4_isSo_64 : decode cX4_isSo 64 = .ok (.if_icmp .ne 7, 3) := by decide +kernel
theorem dX4_isSo_67 : decode cX4_isSo 67 = .ok (.iconst 1, 1) := by decide +kernel
theorem dX4_isSo_68 : decode cX4_isSo 68 = .ok (.goto 4, 3) := by decide +kernel
theorem dX4_isSo_71 : decode cX4_isSo 71 = .ok (.iconst 0, 1) := by decide +kernel
theorem dX4_isSo_72 : decode cX4_isSo 72 = .ok (.istore 4, 2) := by decide +kernel
theorem dX4_isSo_74 : decode cX4_isSo 74 = .ok (.iinc 5 1, 3) := by decide +kernel
theorem dX4_isSo_77 : decode cX4_isSo 77 = .ok (.goto (-71), 3) := by decide +kernel
theorem dX4_isSo_80 : decode cX4_isSo 80 = .ok (.iload 4, 2) := by decide +kernel
theorem dX4_isSo_82 : decode cX4_isSo 82 = .ok (.ireturn, 1) := by decide +kernel
theorem dX4_foundAt_0 : decode cX4_foundAt 0 = .ok (.iload_n 1, 1) := by decide +kernel
theorem dX4_foundAt_1 : decode cX4_foundAt 1 = .ok (.ifCond .lt 11, 3) := by decide +kernel
theorem dX4_foundAt_4 : decode cX4_foundAt 4 = .ok (.iload_n 1, 1) := by decide +kernel
theorem dX4_foundAt_5 : decode cX4_foundAt 5 = .ok (.aload_n 0, 1) := by decide +kernel
theorem dX4_foundAt_6 : decode cX4_foundAt 6 = .ok (.getfield 29, 3) := by decide +kernel
theorem dX4_foundAt_9 : decode cX4_foundAt 9 = .ok (.if_icmp .lt 7, 3) := by decide +kernel
theorem dX4_foundAt_12 : decode cX4_foundAt 12 = .ok (.iconst (-1), 1) := by decide +kernel
theorem dX4_foundAt_13 : decode cX4_foundAt 13 = .ok (.goto 9, 3) := by decide +kernel
theorem dX4_foundAt_16 : decode cX4_foundAt 16 = .ok (.aload_n 0, 1) := by decide +kernel
theorem dX4_foundAt_17 : decode cX4_foundAt 17 = .ok (.getfield 26, 3) := by decide +kernel
theorem dX4_foundAt_20 : decode cX4_foundAt 20 = .ok (.iload_n 1, 1) := by decide +kernel
theorem dX4_foundAt_21 : decode cX4_foundAt 21 = .ok (.iaload, 1) := by decide +kernel
theorem dX4_foundAt_22 : decode cX4_foundAt 22 = .ok (.ireturn, 1) := by decide +kernel
theorem dX4_bestTick_0 : decode cX4_bestTick 0 = .ok (.iconst (-1), 1) := by decide +kernel
theorem dX4_bestTick_1 : decode cX4_bestTick 1 = .ok (.istore_n 2, 1) := by decide +kernel
theorem dX4_bestTick_2 : decode cX4_bestTick 2 = .ok (.aload_n 0, 1) := by decide +kernel
theorem dX4_bestTick_3 : decode cX4_bestTick 3 = .ok (.getfield 29, 3) := by decide +kernel
theorem dX4_bestTick_6 : decode cX4_bestTick 6 = .ok (.iconst 1, 1) := by decide +kernel
theorem dX4_bestTick_7 : decode cX4_bestTick 7 = .ok (.iadd, 1) := by decide +kernel
theorem dX4_bestTick_8 : decode cX4_bestTick 8 = .ok (.istore_n 3, 1) := by decide +kernel
theorem dX4_bestTick_9 : decode cX4_bestTick 9 = .ok (.iconst 0, 1) := by decide +kernel
theorem dX4_bestTick_10 : decode cX4_bestTick 10 = .ok (.istore 4, 2) := by decide +kernel
theorem dX4_bestTick_12 : decode cX4_bestTick 12 = .ok (.iload 4, 2) := by decide +kernel
theorem dX4_bestTick_14 : decode cX4_bestTick 14 = .ok (.bipush 60, 2) := by decide +kernel
theorem dX4_bestTick_16 : decode cX4_bestTick 16 = .ok (.if_icmp .gt 37, 3) := by decide +kernel
theorem dX4_bestTick_19 : decode cX4_bestTick 19 = .ok (.aload_n 0, 1) := by decide +kernel
theorem dX4_bestTick_20 : decode cX4_bestTick 20 = .ok (.getfield 29, 3) := by decide +kernel
theorem dX4_bestTick_23 : decode cX4_bestTick 23 = .ok (.ifCond .le 30, 3) := by decide +kernel
theorem dX4_bestTick_26 : decode cX4_bestTick 26 = .ok (.aload_n 0, 1) := by decide +kernel
theorem dX4_bestTick_27 : decode cX4_bestTick 27 = .ok (.aload_n 1, 1) := by decide +kernel
theorem dX4_bestTick_28 : decode cX4_bestTick 28 = .ok (.iload 4, 2) := by decide +kernel
theorem dX4_bestTick_30 : decode cX4_bestTick 30 = .ok (.invokevirtual 48, 3) := by decide +kernel
theorem dX4_bestTick_33 : decode cX4_bestTick 33 = .ok (.istore 5, 2) := by decide +kernel
theorem dX4_bestTick_35 : decode cX4_bestTick 35 = .ok (.iload 5, 2) := by decide +kernel
theorem dX4_bestTick_37 : decode cX4_bestTick 37 = .ok (.iload_n 3, 1) := by decide +kernel
theorem dX4_bestTick_38 : decode cX4_bestTick 38 = .ok (.if_icmp .ge 9, 3) := by decide +kernel
theorem dX4_bestTick_41 : decode cX4_bestTick 41 = .ok (.iload 4, 2) := by decide +kernel
theorem dX4_bestTick_43 : decode cX4_bestTick 43 = .ok (.istore_n 2, 1) := by decide +kernel
theorem dX4_bestTick_44 : decode cX4_bestTick 44 = .ok (.iload 5, 2) := by decide +kernel
theorem dX4_bestTick_46 : decode cX4_bestTick 46 = .ok (.istore_n 3, 1) := by decide +kernel
theorem dX4_bestTick_47 : decode cX4_bestTick 47 = .ok (.iinc 4 1, 3) := by decide +kernel
theorem dX4_bestTick_50 : decode cX4_bestTick 50 = .ok (.goto (-38), 3) := by decide +kernel
theorem dX4_bestTick_53 : decode cX4_bestTick 53 = .ok (.iload_n 2, 1) := by decide +kernel
theorem dX4_bestTick_54 : decode cX4_bestTick 54 = .ok (.ireturn, 1) := by decide +kernel
theorem dX4_mostAlike_0 : decode cX4_mostAlike 0 = .ok (.aload_n 0, 1) := by decide +kernel
theorem dX4_mostAlike_1 : decode cX4_mostAlike 1 = .ok (.getfield 32, 3) := by decide +kernel
theorem dX4_mostAlike_4 : decode cX4_mostAlike 4 = .ok (.iconst 0, 1) := by decide +kernel
theorem dX4_mostAlike_5 : decode cX4_mostAlike 5 = .ok (.invokestatic 52, 3) := by decide +kernel
theorem dX4_mostAlike_8 : decode cX4_mostAlike 8 = .ok (.iconst 0, 1) := by decide +kernel
theorem dX4_mostAlike_9 : decode cX4_mostAlike 9 = .ok (.istore_n 3, 1) := by decide +kernel
theorem dX4_mostAlike_10 : decode cX4_mostAlike 10 = .ok (.iconst 0, 1) := by decide +kernel
theorem dX4_mostAlike_11 : decode cX4_mostAlike 11 = .ok (.istore 4, 2) := by decide +kernel
theorem dX4_mostAlike_13 : decode cX4_mostAlike 13 = .ok (.iload 4, 2) := by decide +kernel
theorem dX4_mostAlike_15 : decode cX4_mostAlike 15 = .ok (.aload_n 0, 1) := by decide +kernel
theorem dX4_mostAlike_16 : decode cX4_mostAlike 16 = .ok (.getfield 29, 3) := by decide +kernel
theorem dX4_mostAlike_19 : decode cX4_mostAlike 19 = .ok (.if_icmp .ge 132, 3) := by decide +kernel
theorem dX4_mostAlike_22 : decode cX4_mostAlike 22 = .ok (.iload 4, 2) := by decide +kernel
theorem dX4_mostAlike_24 : decode cX4_mostAlike 24 = .ok (.aload_n 0, 1) := by decide +kernel
theorem dX4_mostAlike_25 : decode cX4_mostAlike 25 = .ok (.getfield 26, 3) := by decide +kernel
theorem dX4_mostAlike_28 : decode cX4_mostAlike 28 = .ok (.arraylength, 1) := by decide +kernel
theorem dX4_mostAlike_29 : decode cX4_mostAlike 29 = .ok (.if_icmp .ge 122, 3) := by decide +kernel
theorem dX4_mostAlike_32 : decode cX4_mostAlike 32 = .ok (.aload_n 0, 1) := by decide +kernel
theorem dX4_mostAlike_33 : decode cX4_mostAlike 33 = .ok (.getfield 26, 3) := by decide +kernel
theorem dX4_mostAlike_36 : decode cX4_mostAlike 36 = .ok (.iload 4, 2) := by decide +kernel
theorem dX4_mostAlike_38 : decode cX4_mostAlike 38 = .ok (.iaload, 1) := by decide +kernel
theorem dX4_mostAlike_39 : decode cX4_mostAlike 39 = .ok (.sipush 1000, 3) := by decide +kernel
theorem dX4_mostAlike_42 : decode cX4_mostAlike 42 = .ok (.idiv, 1) := by decide +kernel
theorem dX4_mostAlike_43 : decode cX4_mostAlike 43 = .ok (.istore 5, 2) := by decide +kernel
theorem dX4_mostAlike_45 : decode cX4_mostAlike 45 = .ok (.aload_n 0, 1) := by decide +kernel
theorem dX4_mostAlike_46 : decode cX4_mostAlike 46 = .ok (.getfield 26, 3) := by decide +kernel
theorem dX4_mostAlike_49 : decode cX4_mostAlike 49 = .ok (.iload 4, 2) := by decide +kernel
theorem dX4_mostAlike_51 : decode cX4_mostAlike 51 = .ok (.iaload, 1) := by decide +kernel
theorem dX4_mostAlike_52 : decode cX4_mostAlike 52 = .ok (.bipush 100, 2) := by decide +kernel
theorem dX4_mostAlike_54 : decode cX4_mostAlike 54 = .ok (.idiv, 1) := by decide +kernel
theorem dX4_mostAlike_55 : decode cX4_mostAlike 55 = .ok (.bipush 10, 2) := by decide +kernel
theorem dX4_mostAlike_57 : decode cX4_mostAlike 57 = .ok (.irem, 1) := by decide +kernel
theorem dX4_mostAlike_58 : decode cX4_mostAlike 58 = .ok (.istore 6, 2) := by decide +kernel
theorem dX4_mostAlike_60 : decode cX4_mostAlike 60 = .ok (.aload_n 0, 1) := by decide +kernel
theorem dX4_mostAlike_61 : decode cX4_mostAlike 61 = .ok (.getfield 26, 3) := by decide +kernel
theorem dX4_mostAlike_64 : decode cX4_mostAlike 64 = .ok (.iload 4, 2) := by decide +kernel
theorem dX4_mostAlike_66 : decode cX4_mostAlike 66 = .ok (.iaload, 1) := by decide +kernel
theorem dX4_mostAlike_67 : decode cX4_mostAlike 67 = .ok (.bipush 100, 2) := by decide +kernel
theorem dX4_mostAlike_69 : decode cX4_mostAlike 69 = .ok (.irem, 1) := by decide +kernel
theorem dX4_mostAlike_70 : decode cX4_mostAlike 70 = .ok (.istore 7, 2) := by decide +kernel
theorem dX4_mostAlike_72 : decode cX4_mostAlike 72 = .ok (.iload 5, 2) := by decide +kernel
theorem dX4_mostAlike_74 : decode cX4_mostAlike 74 = .ok (.ifCond .lt 71, 3) := by decide +kernel
theorem dX4_mostAlike_77 : decode cX4_mostAlike 77 = .ok (.iload 5, 2) := by decide +kernel
theorem dX4_mostAlike_79 : decode cX4_mostAlike 79 = .ok (.aload_n 1, 1) := by decide +kernel
theorem dX4_mostAlike_80 : decode cX4_mostAlike 80 = .ok (.arraylength, 1) := by decide +kernel
theorem dX4_mostAlike_81 : decode cX4_mostAlike 81 = .ok (.if_icmp .ge 64, 3) := by decide +kernel
theorem dX4_mostAlike_84 : decode cX4_mostAlike 84 = .ok (.aload_n 1, 1) := by decide +kernel
theorem dX4_mostAlike_85 : decode cX4_mostAlike 85 = .ok (.iload 5, 2) := by decide +kernel
theorem dX4_mostAlike_87 : decode cX4_mostAlike 87 = .ok (.aaload, 1) := by decide +kernel
theorem dX4_mostAlike_88 : decode cX4_mostAlike 88 = .ok (.ifnull 57, 3) := by decide +kernel
theorem dX4_mostAlike_91 : decode cX4_mostAlike 91 = .ok (.aload_n 1, 1) := by decide +kernel
theorem dX4_mostAlike_92 : decode cX4_mostAlike 92 = .ok (.iload 5, 2) := by decide +kernel
theorem dX4_mostAlike_94 : decode cX4_mostAlike 94 = .ok (.aaload, 1) := by decide +kernel
theorem dX4_mostAlike_95 : decode cX4_mostAlike 95 = .ok (.iload 7, 2) := by decide +kernel
theorem dX4_mostAlike_97 : decode cX4_mostAlike 97 = .ok (.iload 6, 2) := by decide +kernel
theorem dX4_mostAlike_99 : decode cX4_mostAlike 99 = .ok (.iload_n 2, 1) := by decide +kernel
theorem dX4_mostAlike_100 : decode cX4_mostAlike 100 = .ok (.imul, 1) := by decide +kernel
theorem dX4_mostAlike_101 : decode cX4_mostAlike 101 = .ok (.iadd, 1) := by decide +kernel
theorem dX4_mostAlike_102 : decode cX4_mostAlike 102 = .ok (.invokevirtual 44, 3) := by decide +kernel
theorem dX4_mostAlike_105 : decode cX4_mostAlike 105 = .ok (.istore 8, 2) := by decide +kernel
theorem dX4_mostAlike_107 : decode cX4_mostAlike 107 = .ok (.iload 8, 2) := by decide +kernel
theorem dX4_mostAlike_109 : decode cX4_mostAlike 109 = .ok (.ifCond .lt 36, 3) := by decide +kernel
theorem dX4_mostAlike_112 : decode cX4_mostAlike 112 = .ok (.iload 8, 2) := by decide +kernel
theorem dX4_mostAlike_114 : decode cX4_mostAlike 114 = .ok (.aload_n 0, 1) := by decide +kernel
theorem dX4_mostAlike_115 : decode cX4_mostAlike 115 = .ok (.getfield 32, 3) := by decide +kernel
theorem dX4_mostAlike_118 : decode cX4_mostAlike 118 = .ok (.arraylength, 1) := by decide +kernel
theorem dX4_mostAlike_119 : decode cX4_mostAlike 119 = .ok (.if_icmp .ge 26, 3) := by decide +kernel
theorem dX4_mostAlike_122 : decode cX4_mostAlike 122 = .ok (.aload_n 0, 1) := by decide +kernel
theorem dX4_mostAlike_123 : decode cX4_mostAlike 123 = .ok (.getfield 32, 3) := by decide +kernel
theorem dX4_mostAlike_126 : decode cX4_mostAlike 126 = .ok (.iload 8, 2) := by decide +kernel
theorem dX4_mostAlike_128 : decode cX4_mostAlike 128 = .ok (.dup2, 1) := by decide +kernel
theorem dX4_mostAlike_129 : decode cX4_mostAlike 129 = .ok (.iaload, 1) := by decide +kernel
theorem dX4_mostAlike_130 : decode cX4_mostAlike 130 = .ok (.iconst 1, 1) := by decide +kernel
theorem dX4_mostAlike_131 : decode cX4_mostAlike 131 = .ok (.iadd, 1) := by decide +kernel
theorem dX4_mostAlike_132 : decode cX4_mostAlike 132 = .ok (.iastore, 1) := by decide +kernel
theorem dX4_mostAlike_133 : decode cX4_mostAlike 133 = .ok (.iload_n 3, 1) := by decide +kernel
theorem dX4_mostAlike_134 : decode cX4_mostAlike 134 = .ok (.aload_n 0, 1) := by decide +kernel
theorem dX4_mostAlike_135 : decode cX4_mostAlike 135 = .ok (.getfield 32, 3) := by decide +kernel
theorem dX4_mostAlike_138 : decode cX4_mostAlike 138 = .ok (.iload 8, 2) := by decide +kernel
theorem dX4_mostAlike_140 : decode cX4_mostAlike 140 = .ok (.iaload, 1) := by decide +kernel
theorem dX4_mostAlike_141 : decode cX4_mostAlike 141 = .ok (.invokestatic 58, 3) := by decide +kernel
theorem dX4_mostAlike_144 : decode cX4_mostAlike 144 = .ok (.istore_n 3, 1) := by decide +kernel
theorem dX4_mostAlike_145 : decode cX4_mostAlike 145 = .ok (.iinc 4 1, 3) := by decide +kernel
theorem dX4_mostAlike_148 : decode cX4_mostAlike 148 = .ok (.goto (-135), 3) := by decide +kernel
theorem dX4_mostAlike_151 : decode cX4_mostAlike 151 = .ok (.iload_n 3, 1) := by decide +kernel
theorem dX4_mostAlike_152 : decode cX4_mostAlike 152 = .ok (.ireturn, 1) := by decide +kernel
theorem dX5_init_0 : decode cX5_init 0 = .ok (.aload_n 0, 1) := by decide +kernel
theorem dX5_init_1 : decode cX5_init 1 = .ok (.invokespecial 3, 3) := by decide +kernel
theorem dX5_init_4 : decode cX5_init 4 = .ok (.aload_n 0, 1) := by decide +kernel
theorem dX5_init_5 : decode cX5_init 5 = .ok (.bipush 40, 2) := by decide +kernel
theorem dX5_init_7 : decode cX5_init 7 = .ok (.anewarray 9, 3) := by decide +kernel
theorem dX5_init_10 : decode cX5_init 10 = .ok (.putfield 11, 3) := by decide +kernel
theorem dX5_init_13 : decode cX5_init 13 = .ok (.aload_n 0, 1) := by decide +kernel
theorem dX5_init_14 : decode cX5_init 14 = .ok (.iconst 0, 1) := by decide +kernel
theorem dX5_init_15 : decode cX5_init 15 = .ok (.putfield 17, 3) := by decide +kernel
theorem dX5_init_18 : decode cX5_init 18 = .ok (.aload_n 0, 1) := by decide +kernel
theorem dX5_init_19 : decode cX5_init 19 = .ok (.iconst 0, 1) := by decide +kernel
theorem dX5_init_20 : decode cX5_init 20 = .ok (.putfield 21, 3) := by decide +kernel
theorem dX5_init_23 : decode cX5_init 23 = .ok (.iconst 0, 1) := by decide +kernel
theorem dX5_init_24 : decode cX5_init 24 = .ok (.istore_n 1, 1) := by decide +kernel
theorem dX5_init_25 : decode cX5_init 25 = .ok (.iload_n 1, 1) := by decide +kernel
theorem dX5_init_26 : decode cX5_init 26 = .ok (.aload_n 0, 1) := by decide +kernel
theorem dX5_init_27 : decode cX5_init 27 = .ok (.getfield 11, 3) := by decide +kernel
theorem dX5_init_30 : decode cX5_init 30 = .ok (.arraylength, 1) := by decide +kernel
theorem dX5_init_31 : decode cX5_init 31 = .ok (.if_icmp .ge 22, 3) := by decide +kernel
theorem dX5_init_34 : decode cX5_init 34 = .ok (.aload_n 0, 1) := by decide +kernel
theorem dX5_init_35 : decode cX5_init 35 = .ok (.getfield 11, 3) := by decide +kernel
theorem dX5_init_38 : decode cX5_init 38 = .ok (.iload_n 1, 1) := by decide +kernel
theorem dX5_init_39 : decode cX5_init 39 = .ok (.new 9, 3) := by decide +kernel
theorem dX5_init_42 : decode cX5_init 42 = .ok (.dup, 1) := by decide +kernel
theorem dX5_init_43 : decode cX5_init 43 = .ok (.invokespecial 24, 3) := by decide +kernel
theorem dX5_init_46 : decode cX5_init 46 = .ok (.aastore, 1) := by decide +kernel
theorem dX5_init_47 : decode cX5_init 47 = .ok (.iinc 1 1, 3) := by decide +kernel
theorem dX5_init_50 : decode cX5_init 50 = .ok (.goto (-25), 3) := by decide +kernel
theorem dX5_init_53 : decode cX5_init 53 = .ok (.return_, 1) := by decide +kernel
theorem dX5_clear_0 : decode cX5_clear 0 = .ok (.aload_n 0, 1) := by decide +kernel
theorem dX5_clear_1 : decode cX5_clear 1 = .ok (.iconst 0, 1) := by decide +kernel
theorem dX5_clear_2 : decode cX5_clear 2 = .ok (.putfield 21, 3) := by decide +kernel
theorem dX5_clear_5 : decode cX5_clear 5 = .ok (.return_, 1) := by decide +kernel
theorem dX5_keep_0 : decode cX5_keep 0 = .ok (.aload_n 0, 1) := by decide +kernel
theorem dX5_keep_1 : decode cX5_keep 1 = .ok (.getfield 11, 3) := by decide +kernel
theorem dX5_keep_4 : decode cX5_keep 4 = .ok (.aload_n 0, 1) := by decide +kernel
theorem dX5_keep_5 : decode cX5_keep 5 = .ok (.getfield 17, 3) := by decide +kernel
theorem dX5_keep_8 : decode cX5_keep 8 = .ok (.bipush 40, 2) := by decide +kernel
theorem dX5_keep_10 : decode cX5_keep 10 = .ok (.invokestatic 25, 3) := by decide +kernel
theorem dX5_keep_13 : decode cX5_keep 13 = .ok (.aaload, 1) := by decide +kernel
theorem dX5_keep_14 : decode cX5_keep 14 = .ok (.aload_n 1, 1) := by decide +kernel
theorem dX5_keep_15 : decode cX5_keep 15 = .ok (.invokevirtual 29, 3) := by decide +kernel
theorem dX5_keep_18 : decode cX5_keep 18 = .ok (.aload_n 0, 1) := by decide +kernel
theorem dX5_keep_19 : decode cX5_keep 19 = .ok (.aload_n 0, 1) := by decide +kernel
theorem dX5_keep_20 : decode cX5_keep 20 = .ok (.getfield 17, 3) := by decide +kernel
theorem dX5_keep_23 : decode cX5_keep 23 = .ok (.iconst 1, 1) := by decide +kernel
theorem dX5_keep_24 : decode cX5_keep 24 = .ok (.iadd, 1) := by decide +kernel
theorem dX5_keep_25 : decode cX5_keep 25 = .ok (.bipush 40, 2) := by decide +kernel
theorem dX5_keep_27 : decode cX5_keep 27 = .ok (.invokestatic 25, 3) := by decide +kernel
theorem dX5_keep_30 : decode cX5_keep 30 = .ok (.putfield 17, 3) := by decide +kernel
theorem dX5_keep_33 : decode cX5_keep 33 = .ok (.aload_n 0, 1) := by decide +kernel
theorem dX5_keep_34 : decode cX5_keep 34 = .ok (.bipush 40, 2) := by decide +kernel
theorem dX5_keep_36 : decode cX5_keep 36 = .ok (.aload_n 0, 1) := by decide +kernel
theorem dX5_keep_37 : decode cX5_keep 37 = .ok (.getfield 21, 3) := by decide +kernel
theorem dX5_keep_40 : decode cX5_keep 40 = .ok (.iconst 1, 1) := by decide +kernel
theorem dX5_keep_41 : decode cX5_keep 41 = .ok (.iadd, 1) := by decide +kernel
theorem dX5_keep_42 : decode cX5_keep 42 = .ok (.invokestatic 33, 3) := by decide +kernel
theorem dX5_keep_45 : decode cX5_keep 45 = .ok (.putfield 21, 3) := by decide +kernel
theorem dX5_keep_48 : decode cX5_keep 48 = .ok (.return_, 1) := by decide +kernel
theorem dX5_bringBack_0 : decode cX5_bringBack 0 = .ok (.aload_n 0, 1) := by decide +kernel
theorem dX5_bringBack_1 : decode cX5_bringBack 1 = .ok (.getfield 21, 3) := by decide +kernel
theorem dX5_bringBack_4 : decode cX5_bringBack 4 = .ok (.iconst 1, 1) := by decide +kernel
theorem dX5_bringBack_5 : decode cX5_bringBack 5 = .ok (.if_icmp .ge 5, 3) := by decide +kernel
theorem dX5_bringBack_8 : decode cX5_bringBack 8 = .ok (.iconst (-1), 1) := by decide +kernel
theorem dX5_bringBack_9 : decode cX5_bringBack 9 = .ok (.ireturn, 1) := by decide +kernel
theorem dX5_bringBack_10 : decode cX5_bringBack 10 = .ok (.aload_n 0, 1) := by decide +kernel
theorem dX5_bringBack_11 : decode cX5_bringBack 11 = .ok (.aload_n 0, 1) := by decide +kernel
theorem dX5_bringBack_12 : decode cX5_bringBack 12 = .ok (.getfield 17, 3) := by decide +kernel
theorem dX5_bringBack_15 : decode cX5_bringBack 15 = .ok (.iconst 1, 1) := by decide +kernel
theorem dX5_bringBack_16 : decode cX5_bringBack 16 = .ok (.isub, 1) := by decide +kernel
theorem dX5_bringBack_17 : decode cX5_bringBack 17 = .ok (.bipush 40, 2) := by decide +kernel
theorem dX5_bringBack_19 : decode cX5_bringBack 19 = .ok (.invokestatic 25, 3) := by decide +kernel
theorem dX5_bringBack_22 : decode cX5_bringBack 22 = .ok (.putfield 17, 3) := by decide +kernel
theorem dX5_bringBack_25 : decode cX5_bringBack 25 = .ok (.aload_n 1, 1) := by decide +kernel
theorem dX5_bringBack_26 : decode cX5_bringBack 26 = .ok (.aload_n 0, 1) := by decide +kernel
theorem dX5_bringBack_27 : decode cX5_bringBack 27 = .ok (.getfield 11, 3) := by decide +kernel
theorem dX5_bringBack_30 : decode cX5_bringBack 30 = .ok (.aload_n 0, 1) := by decide +kernel
theorem dX5_bringBack_31 : decode cX5_bringBack 31 = .ok (.getfield 17, 3) := by decide +kernel
theorem dX5_bringBack_34 : decode cX5_bringBack 34 = .ok (.bipush 40, 2) := by decide +kernel
theorem dX5_bringBack_36 : decode cX5_bringBack 36 = .ok (.invokestatic 25, 3) := by decide +kernel
theorem dX5_bringBack_39 : decode cX5_bringBack 39 = .ok (.aaload, 1) := by decide +kernel
theorem dX5_bringBack_40 : decode cX5_bringBack 40 = .ok (.invokevirtual 29, 3) := by decide +kernel
theorem dX5_bringBack_43 : decode cX5_bringBack 43 = .ok (.aload_n 0, 1) := by decide +kernel
theorem dX5_bringBack_44 : decode cX5_bringBack 44 = .ok (.dup, 1) := by decide +kernel
theorem dX5_bringBack_45 : decode cX5_bringBack 45 = .ok (.getfield 21, 3) := by decide +kernel
theorem dX5_bringBack_48 : decode cX5_bringBack 48 = .ok (.iconst 1, 1) := by decide +kernel
theorem dX5_bringBack_49 : decode cX5_bringBack 49 = .ok (.isub, 1) := by decide +kernel
theorem dX5_bringBack_50 : decode cX5_bringBack 50 = .ok (.putfield 21, 3) := by decide +kernel
theorem dX5_bringBack_53 : decode cX5_bringBack 53 = .ok (.aload_n 0, 1) := by decide +kernel
theorem dX5_bringBack_54 : decode cX5_bringBack 54 = .ok (.getfield 21, 3) := by decide +kernel
theorem dX5_bringBack_57 : decode cX5_bringBack 57 = .ok (.ireturn, 1) := by decide +kernel
theorem dX6_init_0 : decode cX6_init 0 = .ok (.aload_n 0, 1) := by decide +kernel
theorem dX6_init_1 : decode cX6_init 1 = .ok (.invokespecial 3, 3) := by decide +kernel
theorem dX6_init_4 : decode cX6_init 4 = .ok (.aload_n 0, 1) := by decide +kernel
theorem dX6_init_5 : decode cX6_init 5 = .ok (.iconst 0, 1) := by decide +kernel
theorem dX6_init_6 : decode cX6_init 6 = .ok (.newarray .int, 2) := by decide +kernel
theorem dX6_init_8 : decode cX6_init 8 = .ok (.putfield 9, 3) := by decide +kernel
theorem dX6_init_11 : decode cX6_init 11 = .ok (.aload_n 0, 1) := by decide +kernel
theorem dX6_init_12 : decode cX6_init 12 = .ok (.iconst 0, 1) := by decide +kernel
theorem dX6_init_13 : decode cX6_init 13 = .ok (.putfield 15, 3) := by decide +kernel
theorem dX6_init_16 : decode cX6_init 16 = .ok (.aload_n 0, 1) := by decide +kernel
theorem dX6_init_17 : decode cX6_init 17 = .ok (.iconst 0, 1) := by decide +kernel
theorem dX6_init_18 : decode cX6_init 18 = .ok (.putfield 19, 3) := by decide +kernel
theorem dX6_init_21 : decode cX6_init 21 = .ok (.return_, 1) := by decide +kernel
theorem dX6_start_0 : decode cX6_start 0 = .ok (.aload_n 0, 1) := by decide +kernel
theorem dX6_start_1 : decode cX6_start 1 = .ok (.aload_n 1, 1) := by decide +kernel
theorem dX6_start_2 : decode cX6_start 2 = .ok (.putfield 9, 3) := by decide +kernel
theorem dX6_start_5 : decode cX6_start 5 = .ok (.aload_n 0, 1) := by decide +kernel
theorem dX6_start_6 : decode cX6_start 6 = .ok (.iload_n 2, 1) := by decide +kernel
theorem dX6_start_7 : decode cX6_start 7 = .ok (.aload_n 1, 1) := by decide +kernel
theorem dX6_start_8 : decode cX6_start 8 = .ok (.arraylength, 1) := by decide +kernel
theorem dX6_start_9 : decode cX6_start 9 = .ok (.invokestatic 22, 3) := by decide +kernel
theorem dX6_start_12 : decode cX6_start 12 = .ok (.putfield 15, 3) := by decide +kernel
theorem dX6_start_15 : decode cX6_start 15 = .ok (.aload_n 0, 1) := by decide +kernel
theorem dX6_start_16 : decode cX6_start 16 = .ok (.iconst 0, 1) := by decide +kernel
theorem dX6_start_17 : decode cX6_start 17 = .ok (.putfield 19, 3) := by decide +kernel
theorem dX6_start_20 : decode cX6_start 20 = .ok (.return_, 1) := by decide +kernel
theorem dX6_nextSign_0 : decode cX6_nextSign 0 = .ok (.aload_n 0, 1) := by decide +kernel
theorem dX6_nextSign_1 : decode cX6_nextSign 1 = .ok (.getfield 19, 3) := by decide +kernel
theorem dX6_nextSign_4 : decode cX6_nextSign 4 = .ok (.aload_n 0, 1) := by decide +kernel
theorem dX6_nextSign_5 : decode cX6_nextSign 5 = .ok (.getfield 15, 3) := by decide +kernel
theorem dX6_nextSign_8 : decode cX6_nextSign 8 = .ok (.if_icmp .ge 30, 3) := by decide +kernel
theorem dX6_nextSign_11 : decode cX6_nextSign 11 = .ok (.aload_n 0, 1) := by decide +kernel
theorem dX6_nextSign_12 : decode cX6_nextSign 12 = .ok (.getfield 9, 3) := by decide +kernel
theorem dX6_nextSign_15 : decode cX6_nextSign 15 = .ok (.aload_n 0, 1) := by decide +kernel
theorem dX6_nextSign_16 : decode cX6_nextSign 16 = .ok (.getfield 19, 3) := by decide +kernel
theorem dX6_nextSign_19 : decode cX6_nextSign 19 = .ok (.iaload, 1) := by decide +kernel
theorem dX6_nextSign_20 : decode cX6_nextSign 20 = .ok (.bipush 32, 2) := by decide +kernel
theorem dX6_nextSign_22 : decode cX6_nextSign 22 = .ok (.if_icmp .ne 16, 3) := by decide +kernel
theorem dX6_nextSign_25 : decode cX6_nextSign 25 = .ok (.aload_n 0, 1) := by decide +kernel
theorem dX6_nextSign_26 : decode cX6_nextSign 26 = .ok (.dup, 1) := by decide +kernel
theorem dX6_nextSign_27 : decode cX6_nextSign 27 = .ok (.getfield 19, 3) := by decide +kernel
theorem dX6_nextSign_30 : decode cX6_nextSign 30 = .ok (.iconst 1, 1) := by decide +kernel
theorem dX6_nextSign_31 : decode cX6_nextSign 31 = .ok (.iadd, 1) := by decide +kernel
theorem dX6_nextSign_32 : decode cX6_nextSign 32 = .ok (.putfield 19, 3) := by decide +kernel
theorem dX6_nextSign_35 : decode cX6_nextSign 35 = .ok (.goto (-35), 3) := by decide +kernel
theorem dX6_nextSign_38 : decode cX6_nextSign 38 = .ok (.aload_n 0, 1) := by decide +kernel
theorem dX6_nextSign_39 : decode cX6_nextSign 39 = .ok (.getfield 19, 3) := by decide +kernel
theorem dX6_nextSign_42 : decode cX6_nextSign 42 = .ok (.aload_n 0, 1) := by decide +kernel
theorem dX6_nextSign_43 : decode cX6_nextSign 43 = .ok (.getfield 15, 3) := by decide +kernel
theorem dX6_nextSign_46 : decode cX6_nextSign 46 = .ok (.if_icmp .ge 15, 3) := by decide +kernel
theorem dX6_nextSign_49 : decode cX6_nextSign 49 = .ok (.aload_n 0, 1) := by decide +kernel
theorem dX6_nextSign_50 : decode cX6_nextSign 50 = .ok (.getfield 9, 3) := by decide +kernel
theorem dX6_nextSign_53 : decode cX6_nextSign 53 = .ok (.aload_n 0, 1) := by decide +kernel
theorem dX6_nextSign_54 : decode cX6_nextSign 54 = .ok (.getfield 19, 3) := by decide +kernel
theorem dX6_nextSign_57 : decode cX6_nextSign 57 = .ok (.iaload, 1) := by decide +kernel
theorem dX6_nextSign_58 : decode cX6_nextSign 58 = .ok (.goto 4, 3) := by decide +kernel
theorem dX6_nextSign_61 : decode cX6_nextSign 61 = .ok (.iconst (-1), 1) := by decide +kernel
theorem dX6_nextSign_62 : decode cX6_nextSign 62 = .ok (.ireturn, 1) := by decide +kernel
theorem dX6_takes_0 : decode cX6_takes 0 = .ok (.aload_n 0, 1) := by decide +kernel
theorem dX6_takes_1 : decode cX6_takes 1 = .ok (.invokevirtual 28, 3) := by decide +kernel
theorem dX6_takes_4 : decode cX6_takes 4 = .ok (.iload_n 1, 1) := by decide +kernel
theorem dX6_takes_5 : decode cX6_takes 5 = .ok (.if_icmp .ne 7, 3) := by decide +kernel
theorem dX6_takes_8 : decode cX6_takes 8 = .ok (.iconst 1, 1) := by decide +kernel
theorem dX6_takes_9 : decode cX6_takes 9 = .ok (.goto 4, 3) := by decide +kernel
theorem dX6_takes_12 : decode cX6_takes 12 = .ok (.iconst 0, 1) := by decide +kernel
theorem dX6_takes_13 : decode cX6_takes 13 = .ok (.istore_n 2, 1) := by decide +kernel
theorem dX6_takes_14 : decode cX6_takes 14 = .ok (.aload_n 0, 1) := by decide +kernel
theorem dX6_takes_15 : decode cX6_takes 15 = .ok (.dup, 1) := by decide +kernel
theorem dX6_takes_16 : decode cX6_takes 16 = .ok (.getfield 19, 3) := by decide +kernel
theorem dX6_takes_19 : decode cX6_takes 19 = .ok (.iload_n 2, 1) := by decide +kernel
theorem dX6_takes_20 : decode cX6_takes 20 = .ok (.ifCond .eq 7, 3) := by decide +kernel
theorem dX6_takes_23 : decode cX6_takes 23 = .ok (.iconst 1, 1) := by decide +kernel
theorem dX6_takes_24 : decode cX6_takes 24 = .ok (.goto 4, 3) := by decide +kernel
theorem dX6_takes_27 : decode cX6_takes 27 = .ok (.iconst 0, 1) := by decide +kernel
theorem dX6_takes_28 : decode cX6_takes 28 = .ok (.iadd, 1) := by decide +kernel
theorem dX6_takes_29 : decode cX6_takes 29 = .ok (.putfield 19, 3) := by decide +kernel
theorem dX6_takes_32 : decode cX6_takes 32 = .ok (.iload_n 2, 1) := by decide +kernel
theorem dX6_takes_33 : decode cX6_takes 33 = .ok (.ireturn, 1) := by decide +kernel
theorem dX6_number_0 : decode cX6_number 0 = .ok (.iconst 0, 1) := by decide +kernel
theorem dX6_number_1 : decode cX6_number 1 = .ok (.istore 4, 2) := by decide +kernel
theorem dX6_number_3 : decode cX6_number 3 = .ok (.iconst 0, 1) := by decide +kernel
theorem dX6_number_4 : decode cX6_number 4 = .ok (.istore 5, 2) := by decide +kernel
theorem dX6_number_6 : decode cX6_number 6 = .ok (.aload_n 0, 1) := by decide +kernel
theorem dX6_number_7 : decode cX6_number 7 = .ok (.getfield 15, 3) := by decide +kernel
theorem dX6_number_10 : decode cX6_number 10 = .ok (.aload_n 0, 1) := by decide +kernel
theorem dX6_number_11 : decode cX6_number 11 = .ok (.getfield 19, 3) := by decide +kernel
theorem dX6_number_14 : decode cX6_number 14 = .ok (.iload_n 1, 1) := by decide +kernel
theorem dX6_number_15 : decode cX6_number 15 = .ok (.iadd, 1) := by decide +kernel
theorem dX6_number_16 : decode cX6_number 16 = .ok (.iconst 1, 1) := by decide +kernel
theorem dX6_number_17 : decode cX6_number 17 = .ok (.iadd, 1) := by decide +kernel
theorem dX6_number_18 : decode cX6_number 18 = .ok (.invokestatic 22, 3) := by decide +kernel
theorem dX6_number_21 : decode cX6_number 21 = .ok (.istore 6, 2) := by decide +kernel
theorem dX6_number_23 : decode cX6_number 23 = .ok (.aload_n 0, 1) := by decide +kernel
theorem dX6_number_24 : decode cX6_number 24 = .ok (.getfield 19, 3) := by decide +kernel
theorem dX6_number_27 : decode cX6_number 27 = .ok (.iload 4, 2) := by decide +kernel
theorem dX6_number_29 : decode cX6_number 29 = .ok (.iadd, 1) := by decide +kernel
theorem dX6_number_30 : decode cX6_number 30 = .ok (.iload 6, 2) := by decide +kernel
theorem dX6_number_32 : decode cX6_number 32 = .ok (.if_icmp .ge 66, 3) := by decide +kernel
theorem dX6_number_35 : decode cX6_number 35 = .ok (.aload_n 0, 1) := by decide +kernel
theorem dX6_number_36 : decode cX6_number 36 = .ok (.getfield 9, 3) := by decide +kernel
theorem dX6_number_39 : decode cX6_number 39 = .ok (.aload_n 0, 1) := by decide +kernel
theorem dX6_number_40 : decode cX6_number 40 = .ok (.getfield 19, 3) := by decide +kernel
theorem dX6_number_43 : decode cX6_number 43 = .ok (.iload 4, 2) := by decide +kernel
theorem dX6_number_45 : decode cX6_number 45 = .ok (.iadd, 1) := by decide +kernel
theorem dX6_number_46 : decode cX6_number 46 = .ok (.iaload, 1) := by decide +kernel
theorem dX6_number_47 : decode cX6_number 47 = .ok (.bipush 48, 2) := by decide +kernel
theorem dX6_number_49 : decode cX6_number 49 = .ok (.if_icmp .lt 49, 3) := by decide +kernel
theorem dX6_number_52 : decode cX6_number 52 = .ok (.aload_n 0, 1) := by decide +kernel
theorem dX6_number_53 : decode cX6_number 53 = .ok (.getfield 9, 3) := by decide +kernel
theorem dX6_number_56 : decode cX6_number 56 = .ok (.aload_n 0, 1) := by decide +kernel
theorem dX6_number_57 : decode cX6_number 57 = .ok (.getfield 19, 3) := by decide +kernel
theorem dX6_number_60 : decode cX6_number 60 = .ok (.iload 4, 2) := by decide +kernel
theorem dX6_number_62 : decode cX6_number 62 = .ok (.iadd, 1) := by decide +kernel
theorem dX6_number_63 : decode cX6_number 63 = .ok (.iaload, 1) := by decide +kernel
theorem dX6_number_64 : decode cX6_number 64 = .ok (.bipush 57, 2) := by decide +kernel
theorem dX6_number_66 : decode cX6_number 66 = .ok (.if_icmp .gt 32, 3) := by decide +kernel
theorem dX6_number_69 : decode cX6_number 69 = .ok (.iload 5, 2) := by decide +kernel
theorem dX6_number_71 : decode cX6_number 71 = .ok (.bipush 10, 2) := by decide +kernel
theorem dX6_number_73 : decode cX6_number 73 = .ok (.imul, 1) := by decide +kernel
theorem dX6_number_74 : decode cX6_number 74 = .ok (.aload_n 0, 1) := by decide +kernel
theorem dX6_number_75 : decode cX6_number 75 = .ok (.getfield 9, 3) := by decide +kernel
theorem dX6_number_78 : decode cX6_number 78 = .ok (.aload_n 0, 1) := by decide +kernel
theorem dX6_number_79 : decode cX6_number 79 = .ok (.getfield 19, 3) := by decide +kernel
theorem dX6_number_82 : decode cX6_number 82 = .ok (.iload 4, 2) := by decide +kernel
theorem dX6_number_84 : decode cX6_number 84 = .ok (.iadd, 1) := by decide +kernel
theorem dX6_number_85 : decode cX6_number 85 = .ok (.iaload, 1) := by decide +kernel
theorem dX6_number_86 : decode cX6_number 86 = .ok (.iadd, 1) := by decide +kernel
theorem dX6_number_87 : decode cX6_number 87 = .ok (.bipush 48, 2) := by decide +kernel
theorem dX6_number_89 : decode cX6_number 89 = .ok (.isub, 1) := by decide +kernel
theorem dX6_number_90 : decode cX6_number 90 = .ok (.istore 5, 2) := by decide +kernel
theorem dX6_number_92 : decode cX6_number 92 = .ok (.iinc 4 1, 3) := by decide +kernel
theorem dX6_number_95 : decode cX6_number 95 = .ok (.goto (-72), 3) := by decide +kernel
theorem dX6_number_98 : decode cX6_number 98 = .ok (.iload 4, 2) := by decide +kernel
theorem dX6_number_100 : decode cX6_number 100 = .ok (.ifCond .ne 5, 3) := by decide +kernel
theorem dX6_number_103 : decode cX6_number 103 = .ok (.iconst (-1), 1) := by decide +kernel
theorem dX6_number_104 : decode cX6_number 104 = .ok (.ireturn, 1) := by decide +kernel
theorem dX6_number_105 : decode cX6_number 105 = .ok (.iload 4, 2) := by decide +kernel
theorem dX6_number_107 : decode cX6_number 107 = .ok (.iload_n 1, 1) := by decide +kernel
theorem dX6_number_108 : decode cX6_number 108 = .ok (.if_icmp .le 15, 3) := by decide +kernel
theorem dX6_number_111 : decode cX6_number 111 = .ok (.aload_n 0, 1) := by decide +kernel
theorem dX6_number_112 : decode cX6_number 112 = .ok (.dup, 1) := by decide +kernel
theorem dX6_number_113 : decode cX6_number 113 = .ok (.getfield 19, 3) := by decide +kernel
theorem dX6_number_116 : decode cX6_number 116 = .ok (.iload_n 1, 1) := by decide +kernel
theorem dX6_number_117 : decode cX6_number 117 = .ok (.iadd, 1) := by decide +kernel
theorem dX6_number_118 : decode cX6_number 118 = .ok (.putfield 19, 3) := by decide +kernel
theorem dX6_number_121 : decode cX6_number 121 = .ok (.iconst (-1), 1) := by decide +kernel
theorem dX6_number_122 : decode cX6_number 122 = .ok (.ireturn, 1) := by decide +kernel
theorem dX6_number_123 : decode cX6_number 123 = .ok (.iload 5, 2) := by decide +kernel
theorem dX6_number_125 : decode cX6_number 125 = .ok (.iload_n 2, 1) := by decide +kernel
theorem dX6_number_126 : decode cX6_number 126 = .ok (.if_icmp .lt 13, 3) := by decide +kernel
theorem dX6_number_129 : decode cX6_number 129 = .ok (.iload 5, 2) := by decide +kernel
theorem dX6_number_131 : decode cX6_number 131 = .ok (.iload_n 3, 1) := by decide +kernel
theorem dX6_number_132 : decode cX6_number 132 = .ok (.if_icmp .gt 7, 3) := by decide +kernel
theorem dX6_number_135 : decode cX6_number 135 = .ok (.iconst 1, 1) := by decide +kernel
theorem dX6_number_136 : decode cX6_number 136 = .ok (.goto 4, 3) := by decide +kernel
theorem dX6_number_139 : decode cX6_number 139 = .ok (.iconst 0, 1) := by decide +kernel
theorem dX6_number_140 : decode cX6_number 140 = .ok (.istore 7, 2) := by decide +kernel
theorem dX6_number_142 : decode cX6_number 142 = .ok (.aload_n 0, 1) := by decide +kernel
theorem dX6_number_143 : decode cX6_number 143 = .ok (.dup, 1) := by decide +kernel
theorem dX6_number_144 : decode cX6_number 144 = .ok (.getfield 19, 3) := by decide +kernel
theorem dX6_number_147 : decode cX6_number 147 = .ok (.iload 7, 2) := by decide +kernel
theorem dX6_number_149 : decode cX6_number 149 = .ok (.ifCond .eq 8, 3) := by decide +kernel
theorem dX6_number_152 : decode cX6_number 152 = .ok (.iload 4, 2) := by decide +kernel
theorem dX6_number_154 : decode cX6_number 154 = .ok (.goto 7, 3) := by decide +kernel
theorem dX6_number_157 : decode cX6_number 157 = .ok (.iload 4, 2) := by decide +kernel
theorem dX6_number_159 : decode cX6_number 159 = .ok (.iconst 1, 1) := by decide +kernel
theorem dX6_number_160 : decode cX6_number 160 = .ok (.isub, 1) := by decide +kernel
theorem dX6_number_161 : decode cX6_number 161 = .ok (.iadd, 1) := by decide +kernel
theorem dX6_number_162 : decode cX6_number 162 = .ok (.putfield 19, 3) := by decide +kernel
theorem dX6_number_165 : decode cX6_number 165 = .ok (.iload 7, 2) := by decide +kernel
theorem dX6_number_167 : decode cX6_number 167 = .ok (.ifCond .eq 8, 3) := by decide +kernel
theorem dX6_number_170 : decode cX6_number 170 = .ok (.iload 5, 2) := by decide +kernel
theorem dX6_number_172 : decode cX6_number 172 = .ok (.goto 4, 3) := by decide +kernel
theorem dX6_number_175 : decode cX6_number 175 = .ok (.iconst (-1), 1) := by decide +kernel
theorem dX6_number_176 : decode cX6_number 176 = .ok (.ireturn, 1) := by decide +kernel
theorem dX6_letterOf_0 : decode cX6_letterOf 0 = .ok (.iload_n 1, 1) := by decide +kernel
theorem dX6_letterOf_1 : decode cX6_letterOf 1 = .ok (.iconst (-1), 1) := by decide +kernel
theorem dX6_letterOf_2 : decode cX6_letterOf 2 = .ok (.if_icmp .ne 7, 3) := by decide +kernel
theorem dX6_letterOf_5 : decode cX6_letterOf 5 = .ok (.iconst (-1), 1) := by decide +kernel
theorem dX6_letterOf_6 : decode cX6_letterOf 6 = .ok (.goto 9, 3) := by decide +kernel
theorem dX6_letterOf_9 : decode cX6_letterOf 9 = .ok (.aload_n 0, 1) := by decide +kernel
theorem dX6_letterOf_10 : decode cX6_letterOf 10 = .ok (.iload_n 1, 1) := by decide +kernel
theorem dX6_letterOf_11 : decode cX6_letterOf 11 = .ok (.i2c, 1) := by decide +kernel
theorem dX6_letterOf_12 : decode cX6_letterOf 12 = .ok (.invokevirtual 32, 3) := by decide +kernel
theorem dX6_letterOf_15 : decode cX6_letterOf 15 = .ok (.ireturn, 1) := by decide +kernel
theorem dX7_init_0 : decode cX7_init 0 = .ok (.aload_n 0, 1) := by decide +kernel
theorem dX7_init_1 : decode cX7_init 1 = .ok (.invokespecial 3, 3) := by decide +kernel
theorem dX7_init_4 : decode cX7_init 4 = .ok (.aload_n 0, 1) := by decide +kernel
theorem dX7_init_5 : decode cX7_init 5 = .ok (.iconst 4, 1) := by decide +kernel
theorem dX7_init_6 : decode cX7_init 6 = .ok (.anewarray 9, 3) := by decide +kernel
theorem dX7_init_9 : decode cX7_init 9 = .ok (.putfield 11, 3) := by decide +kernel
theorem dX7_init_12 : decode cX7_init 12 = .ok (.aload_n 0, 1) := by decide +kernel
theorem dX7_init_13 : decode cX7_init 13 = .ok (.iconst 0, 1) := by decide +kernel
theorem dX7_init_14 : decode cX7_init 14 = .ok (.putfield 17, 3) := by decide +kernel
theorem dX7_init_17 : decode cX7_init 17 = .ok (.aload_n 0, 1) := by decide +kernel
theorem dX7_init_18 : decode cX7_init 18 = .ok (.iconst 0, 1) := by decide +kernel
theorem dX7_init_19 : decode cX7_init 19 = .ok (.putfield 21, 3) := by decide +kernel
theorem dX7_init_22 : decode cX7_init 22 = .ok (.aload_n 0, 1) := by decide +kernel
theorem dX7_init_23 : decode cX7_init 23 = .ok (.iconst 0, 1) := by decide +kernel
theorem dX7_init_24 : decode cX7_init 24 = .ok (.putfield 24, 3) := by decide +kernel
theorem dX7_init_27 : decode cX7_init 27 = .ok (.aload_n 0, 1) := by decide +kernel
theorem dX7_init_28 : decode cX7_init 28 = .ok (.iconst 0, 1) := by decide +kernel
theorem dX7_init_29 : decode cX7_init 29 = .ok (.putfield 27, 3) := by decide +kernel
theorem dX7_init_32 : decode cX7_init 32 = .ok (.aload_n 0, 1) := by decide +kernel
theorem dX7_init_33 : decode cX7_init 33 = .ok (.iconst 0, 1) := by decide +kernel
theorem dX7_init_34 : decode cX7_init 34 = .ok (.putfield 30, 3) := by decide +kernel
theorem dX7_init_37 : decode cX7_init 37 = .ok (.aload_n 0, 1) := by decide +kernel
theorem dX7_init_38 : decode cX7_init 38 = .ok (.bipush 60, 2) := by decide +kernel
theorem dX7_init_40 : decode cX7_init 40 = .ok (.newarray .int, 2) := by decide +kernel
theorem dX7_init_42 : decode cX7_init 42 = .ok (.putfield 33, 3) := by decide +kernel
theorem dX7_init_45 : decode cX7_init 45 = .ok (.aload_n 0, 1) := by decide +kernel
theorem dX7_init_46 : decode cX7_init 46 = .ok (.iconst 0, 1) := by decide +kernel
theorem dX7_init_47 : decode cX7_init 47 = .ok (.putfield 37, 3) := by decide +kernel
theorem dX7_init_50 : decode cX7_init 50 = .ok (.iconst 0, 1) := by decide +kernel
theorem dX7_init_51 : decode cX7_init 51 = .ok (.istore_n 1, 1) := by decide +kernel
theorem dX7_init_52 : decode cX7_init 52 = .ok (.iload_n 1, 1) := by decide +kernel
theorem dX7_init_53 : decode cX7_init 53 = .ok (.aload_n 0, 1) := by decide +kernel
theorem dX7_init_54 : decode cX7_init 54 = .ok (.getfield 11, 3) := by decide +kernel
theorem dX7_init_57 : decode cX7_init 57 = .ok (.arraylength, 1) := by decide +kernel
theorem dX7_init_58 : decode cX7_init 58 = .ok (.if_icmp .ge 22, 3) := by decide +kernel
theorem dX7_init_61 : decode cX7_init 61 = .ok (.aload_n 0, 1) := by decide +kernel
theorem dX7_init_62 : decode cX7_init 62 = .ok (.getfield 11, 3) := by decide +kernel
theorem dX7_init_65 : decode cX7_init 65 = .ok (.iload_n 1, 1) := by decide +kernel
theorem dX7_init_66 : decode cX7_init 66 = .ok (.new 9, 3) := by decide +kernel
theorem dX7_init_69 : decode cX7_init 69 = .ok (.dup, 1) := by decide +kernel
theorem dX7_init_70 : decode cX7_init 70 = .ok (.invokespecial 40, 3) := by decide +kernel
theorem dX7_init_73 : decode cX7_init 73 = .ok (.aastore, 1) := by decide +kernel
theorem dX7_init_74 : decode cX7_init 74 = .ok (.iinc 1 1, 3) := by decide +kernel
theorem dX7_init_77 : decode cX7_init 77 = .ok (.goto (-25), 3) := by decide +kernel
theorem dX7_init_80 : decode cX7_init 80 = .ok (.return_, 1) := by decide +kernel
theorem dX7_copyFrom_0 : decode cX7_copyFrom 0 = .ok (.iconst 0, 1) := by decide +kernel
theorem dX7_copyFrom_1 : decode cX7_copyFrom 1 = .ok (.istore_n 2, 1) := by decide +kernel
theorem dX7_copyFrom_2 : decode cX7_copyFrom 2 = .ok (.iload_n 2, 1) := by decide +kernel
theorem dX7_copyFrom_3 : decode cX7_copyFrom 3 = .ok (.aload_n 0, 1) := by decide +kernel
theorem dX7_copyFrom_4 : decode cX7_copyFrom 4 = .ok (.getfield 11, 3) := by decide +kernel
theorem dX7_copyFrom_7 : decode cX7_copyFrom 7 = .ok (.arraylength, 1) := by decide +kernel
theorem dX7_copyFrom_8 : decode cX7_copyFrom 8 = .ok (.if_icmp .ge 24, 3) := by decide +kernel
theorem dX7_copyFrom_11 : decode cX7_copyFrom 11 = .ok (.aload_n 0, 1) := by decide +kernel
theorem dX7_copyFrom_12 : decode cX7_copyFrom 12 = .ok (.getfield 11, 3) := by decide +kernel
theorem dX7_copyFrom_15 : decode cX7_copyFrom 15 = .ok (.iload_n 2, 1) := by decide +kernel
theorem dX7_copyFrom_16 : decode cX7_copyFrom 16 = .ok (.aaload, 1) := by decide +kernel
theorem dX7_copyFrom_17 : decode cX7_copyFrom 17 = .ok (.aload_n 1, 1) := by decide +kernel
theorem dX7_copyFrom_18 : decode cX7_copyFrom 18 = .ok (.getfield 11, 3) := by decide +kernel
theorem dX7_copyFrom_21 : decode cX7_copyFrom 21 = .ok (.iload_n 2, 1) := by decide +kernel
theorem dX7_copyFrom_22 : decode cX7_copyFrom 22 = .ok (.aaload, 1) := by decide +kernel
theorem dX7_copyFrom_23 : decode cX7_copyFrom 23 = .ok (.invokevirtual 41, 3) := by decide +kernel
theorem dX7_copyFrom_26 : decode cX7_copyFrom 26 = .ok (.iinc 2 1, 3) := by decide +kernel
theorem dX7_copyFrom_29 : decode cX7_copyFrom 29 = .ok (.goto (-27), 3) := by decide +kernel
theorem dX7_copyFrom_32 : decode cX7_copyFrom 32 = .ok (.aload_n 0, 1) := by decide +kernel
theorem dX7_copyFrom_33 : decode cX7_copyFrom 33 = .ok (.aload_n 1, 1) := by decide +kernel
theorem dX7_copyFrom_34 : decode cX7_copyFrom 34 = .ok (.getfield 17, 3) := by decide +kernel
theorem dX7_copyFrom_37 : decode cX7_copyFrom 37 = .ok (.putfield 17, 3) := by decide +kernel
theorem dX7_copyFrom_40 : decode cX7_copyFrom 40 = .ok (.aload_n 0, 1) := by decide +kernel
theorem dX7_copyFrom_41 : decode cX7_copyFrom 41 = .ok (.aload_n 1, 1) := by decide +kernel
theorem dX7_copyFrom_42 : decode cX7_copyFrom 42 = .ok (.getfield 21, 3) := by decide +kernel
theorem dX7_copyFrom_45 : decode cX7_copyFrom 45 = .ok (.putfield 21, 3) := by decide +kernel
theorem dX7_copyFrom_48 : decode cX7_copyFrom 48 = .ok (.aload_n 0, 1) := by decide +kernel
theorem dX7_copyFrom_49 : decode cX7_copyFrom 49 = .ok (.aload_n 1, 1) := by decide +kernel
theorem dX7_copyFrom_50 : decode cX7_copyFrom 50 = .ok (.getfield 24, 3) := by decide +kernel
theorem dX7_copyFrom_53 : decode cX7_copyFrom 53 = .ok (.putfield 24, 3) := by decide +kernel
theorem dX7_copyFrom_56 : decode cX7_copyFrom 56 = .ok (.aload_n 0, 1) := by decide +kernel
theorem dX7_copyFrom_57 : decode cX7_copyFrom 57 = .ok (.aload_n 1, 1) := by decide +kernel
theorem dX7_copyFrom_58 : decode cX7_copyFrom 58 = .ok (.getfield 27, 3) := by decide +kernel
theorem dX7_copyFrom_61 : decode cX7_copyFrom 61 = .ok (.putfield 27, 3) := by decide +kernel
theorem dX7_copyFrom_64 : decode cX7_copyFrom 64 = .ok (.aload_n 0, 1) := by decide +kernel
theorem dX7_copyFrom_65 : decode cX7_copyFrom 65 = .ok (.aload_n 1, 1) := by decide +kernel
theorem dX7_copyFrom_66 : decode cX7_copyFrom 66 = .ok (.getfield 30, 3) := by decide +kernel
theorem dX7_copyFrom_69 : decode cX7_copyFrom 69 = .ok (.putfield 30, 3) := by decide +kernel
theorem dX7_copyFrom_72 : decode cX7_copyFrom 72 = .ok (.aload_n 1, 1) := by decide +kernel
theorem dX7_copyFrom_73 : decode cX7_copyFrom 73 = .ok (.getfield 33, 3) := by decide +kernel
theorem dX7_copyFrom_76 : decode cX7_copyFrom 76 = .ok (.iconst 0, 1) := by decide +kernel
theorem dX7_copyFrom_77 : decode cX7_copyFrom 77 = .ok (.aload_n 0, 1) := by decide +kernel
theorem dX7_copyFrom_78 : decode cX7_copyFrom 78 = .ok (.getfield 33, 3) := by decide +kernel
theorem dX7_copyFrom_81 : decode cX7_copyFrom 81 = .ok (.iconst 0, 1) := by decide +kernel
theorem dX7_copyFrom_82 : decode cX7_copyFrom 82 = .ok (.bipush 60, 2) := by decide +kernel
theorem dX7_copyFrom_84 : decode cX7_copyFrom 84 = .ok (.invokestatic 45, 3) := by decide +kernel
theorem dX7_copyFrom_87 : decode cX7_copyFrom 87 = .ok (.aload_n 0, 1) := by decide +kernel
theorem dX7_copyFrom_88 : decode cX7_copyFrom 88 = .ok (.aload_n 1, 1) := by decide +kernel
theorem dX7_copyFrom_89 : decode cX7_copyFrom 89 = .ok (.getfield 37, 3) := by decide +kernel
theorem dX7_copyFrom_92 : decode cX7_copyFrom 92 = .ok (.putfield 37, 3) := by decide +kernel
theorem dX7_copyFrom_95 : decode cX7_copyFrom 95 = .ok (.return_, 1) := by decide +kernel
theorem dX7_addRow_0 : decode cX7_addRow 0 = .ok (.aload_n 0, 1) := by decide +kernel
theorem dX7_addRow_1 : decode cX7_addRow 1 = .ok (.getfield 33, 3) := by decide +kernel
theorem dX7_addRow_4 : decode cX7_addRow 4 = .ok (.aload_n 0, 1) := by decide +kernel
theorem dX7_addRow_5 : decode cX7_addRow 5 = .ok (.getfield 37, 3) := by decide +kernel
theorem dX7_addRow_8 : decode cX7_addRow 8 = .ok (.bipush 60, 2) := by decide +kernel
theorem dX7_addRow_10 : decode cX7_addRow 10 = .ok (.invokestatic 51, 3) := by decide +kernel
theorem dX7_addRow_13 : decode cX7_addRow 13 = .ok (.iload_n 1, 1) := by decide +kernel
theorem dX7_addRow_14 : decode cX7_addRow 14 = .ok (.iastore, 1) := by decide +kernel
theorem dX7_addRow_15 : decode cX7_addRow 15 = .ok (.aload_n 0, 1) := by decide +kernel
theorem dX7_addRow_16 : decode cX7_addRow 16 = .ok (.dup, 1) := by decide +kernel
theorem dX7_addRow_17 : decode cX7_addRow 17 = .ok (.getfield 37, 3) := by decide +kernel
theorem dX7_addRow_20 : decode cX7_addRow 20 = .ok (.iconst 1, 1) := by decide +kernel
theorem dX7_addRow_21 : decode cX7_addRow 21 = .ok (.iadd, 1) := by decide +kernel
theorem dX7_addRow_22 : decode cX7_addRow 22 = .ok (.putfield 37, 3) := by decide +kernel
theorem dX7_addRow_25 : decode cX7_addRow 25 = .ok (.return_, 1) := by decide +kernel
theorem dX7_rowCount_0 : decode cX7_rowCount 0 = .ok (.bipush 60, 2) := by decide +kernel
theorem dX7_rowCount_2 : decode cX7_rowCount 2 = .ok (.aload_n 0, 1) := by decide +kernel
theorem dX7_rowCount_3 : decode cX7_rowCount 3 = .ok (.getfield 37, 3) := by decide +kernel
theorem dX7_rowCount_6 : decode cX7_rowCount 6 = .ok (.invokestatic 55, 3) := by decide +kernel
theorem dX7_rowCount_9 : decode cX7_rowCount 9 = .ok (.ireturn, 1) := by decide +kernel
theorem dX7_rowBefore_0 : decode cX7_rowBefore 0 = .ok (.aload_n 0, 1) := by decide +kernel
theorem dX7_rowBefore_1 : decode cX7_rowBefore 1 = .ok (.getfield 33, 3) := by decide +kernel
theorem dX7_rowBefore_4 : decode cX7_rowBefore 4 = .ok (.aload_n 0, 1) := by decide +kernel
theorem dX7_rowBefore_5 : decode cX7_rowBefore 5 = .ok (.getfield 37, 3) := by decide +kernel
theorem dX7_rowBefore_8 : decode cX7_rowBefore 8 = .ok (.iconst 1, 1) := by decide +kernel
theorem dX7_rowBefore_9 : decode cX7_rowBefore 9 = .ok (.isub, 1) := by decide +kernel
theorem dX7_rowBefore_10 : decode cX7_rowBefore 10 = .ok (.iload_n 1, 1) := by decide +kernel
theorem dX7_rowBefore_11 : decode cX7_rowBefore 11 = .ok (.isub, 1) := by decide +kernel
theorem dX7_rowBefore_12 : decode cX7_rowBefore 12 = .ok (.bipush 60, 2) := by decide +kernel
theorem dX7_rowBefore_14 : decode cX7_rowBefore 14 = .ok (.invokestatic 51, 3) := by decide +kernel
theorem dX7_rowBefore_17 : decode cX7_rowBefore 17 = .ok (.iaload, 1) := by decide +kernel
theorem dX7_rowBefore_18 : decode cX7_rowBefore 18 = .ok (.ireturn, 1) := by decide +kernel
theorem dX8_init_0 : decode cX8_init 0 = .ok (.aload_n 0, 1) := by decide +kernel
theorem dX8_init_1 : decode cX8_init 1 = .ok (.invokespecial 3, 3) := by decide +kernel
theorem dX8_init_4 : decode cX8_init 4 = .ok (.aload_n 0, 1) := by decide +kernel
theorem dX8_init_5 : decode cX8_init 5 = .ok (.aload_n 1, 1) := by decide +kernel
theorem dX8_init_6 : decode cX8_init 6 = .ok (.putfield 9, 3) := by decide +kernel
theorem dX8_init_9 : decode cX8_init 9 = .ok (.return_, 1) := by decide +kernel
theorem dX8_size_0 : decode cX8_size 0 = .ok (.aload_n 0, 1) := by decide +kernel
theorem dX8_size_1 : decode cX8_size 1 = .ok (.getfield 9, 3) := by decide +kernel
theorem dX8_size_4 : decode cX8_size 4 = .ok (.arraylength, 1) := by decide +kernel
theorem dX8_size_5 : decode cX8_size 5 = .ok (.ireturn, 1) := by decide +kernel
theorem dX8_shownAt_0 : decode cX8_shownAt 0 = .ok (.aload_n 0, 1) := by decide +kernel
theorem dX8_shownAt_1 : decode cX8_shownAt 1 = .ok (.getfield 9, 3) := by decide +kernel
theorem dX8_shownAt_4 : decode cX8_shownAt 4 = .ok (.arraylength, 1) := by decide +kernel
theorem dX8_shownAt_5 : decode cX8_shownAt 5 = .ok (.iconst 1, 1) := by decide +kernel
theorem dX8_shownAt_6 : decode cX8_shownAt 6 = .ok (.if_icmp .ge 8, 3) := by decide +kernel
theorem dX8_shownAt_9 : decode cX8_shownAt 9 = .ok (.bipush 26, 2) := by decide +kernel
theorem dX8_shownAt_11 : decode cX8_shownAt 11 = .ok (.goto 17, 3) := by decide +kernel
theorem dX8_shownAt_14 : decode cX8_shownAt 14 = .ok (.aload_n 0, 1) := by decide +kernel
theorem dX8_shownAt_15 : decode cX8_shownAt 15 = .ok (.getfield 9, 3) := by decide +kernel
theorem dX8_shownAt_18 : decode cX8_shownAt 18 = .ok (.iload_n 1, 1) := by decide +kernel
theorem dX8_shownAt_19 : decode cX8_shownAt 19 = .ok (.aload_n 0, 1) := by decide +kernel
theorem dX8_shownAt_20 : decode cX8_shownAt 20 = .ok (.getfield 9, 3) := by decide +kernel
theorem dX8_shownAt_23 : decode cX8_shownAt 23 = .ok (.arraylength, 1) := by decide +kernel
theorem dX8_shownAt_24 : decode cX8_shownAt 24 = .ok (.invokestatic 15, 3) := by decide +kernel
theorem dX8_shownAt_27 : decode cX8_shownAt 27 = .ok (.iaload, 1) := by decide +kernel
theorem dX8_shownAt_28 : decode cX8_shownAt 28 = .ok (.ireturn, 1) := by decide +kernel
theorem dX8_has_0 : decode cX8_has 0 = .ok (.iconst 0, 1) := by decide +kernel
theorem dX8_has_1 : decode cX8_has 1 = .ok (.istore_n 2, 1) := by decide +kernel
theorem dX8_has_2 : decode cX8_has 2 = .ok (.aload_n 0, 1) := by decide +kernel
theorem dX8_has_3 : decode cX8_has 3 = .ok (.getfield 9, 3) := by decide +kernel
theorem dX8_has_6 : decode cX8_has 6 = .ok (.astore_n 3, 1) := by decide +kernel
theorem dX8_has_7 : decode cX8_has 7 = .ok (.aload_n 3, 1) := by decide +kernel
theorem dX8_has_8 : decode cX8_has 8 = .ok (.arraylength, 1) := by decide +kernel
theorem dX8_has_9 : decode cX8_has 9 = .ok (.istore 4, 2) := by decide +kernel
theorem dX8_has_11 : decode cX8_has 11 = .ok (.iconst 0, 1) := by decide +kernel
theorem dX8_has_12 : decode cX8_has 12 = .ok (.istore 5, 2) := by decide +kernel
theorem dX8_has_14 : decode cX8_has 14 = .ok (.iload 5, 2) := by decide +kernel
theorem dX8_has_16 : decode cX8_has 16 = .ok (.iload 4, 2) := by decide +kernel
theorem dX8_has_18 : decode cX8_has 18 = .ok (.if_icmp .ge 31, 3) := by decide +kernel
theorem dX8_has_21 : decode cX8_has 21 = .ok (.aload_n 3, 1) := by decide +kernel
theorem dX8_has_22 : decode cX8_has 22 = .ok (.iload 5, 2) := by decide +kernel
theorem dX8_has_24 : decode cX8_has 24 = .ok (.iaload, 1) := by decide +kernel
theorem dX8_has_25 : decode cX8_has 25 = .ok (.istore 6, 2) := by decide +kernel
theorem dX8_has_27 : decode cX8_has 27 = .ok (.iload_n 2, 1) := by decide +kernel
theorem dX8_has_28 : decode cX8_has 28 = .ok (.ifCond .ne 9, 3) := by decide +kernel
theorem dX8_has_31 : decode cX8_has 31 = .ok (.iload 6, 2) := by decide +kernel
theorem dX8_has_33 : decode cX8_has 33 = .ok (.iload_n 1, 1) := by decide +kernel
theorem dX8_has_34 : decode cX8_has 34 = .ok (.if_icmp .ne 7, 3) := by decide +kernel
theorem dX8_has_37 : decode cX8_has 37 = .ok (.iconst 1, 1) := by decide +kernel
theorem dX8_has_38 : decode cX8_has 38 = .ok (.goto 4, 3) := by decide +kernel
theorem dX8_has_41 : decode cX8_has 41 = .ok (.iconst 0, 1) := by decide +kernel
theorem dX8_has_42 : decode cX8_has 42 = .ok (.istore_n 2, 1) := by decide +kernel
theorem dX8_has_43 : decode cX8_has 43 = .ok (.iinc 5 1, 3) := by decide +kernel
theorem dX8_has_46 : decode cX8_has 46 = .ok (.goto (-32), 3) := by decide +kernel
theorem dX8_has_49 : decode cX8_has 49 = .ok (.iload_n 2, 1) := by decide +kernel
theorem dX8_has_50 : decode cX8_has 50 = .ok (.ireturn, 1) := by decide +kernel
theorem dX8_leastPeriod_0 : decode cX8_leastPeriod 0 = .ok (.iconst 1, 1) := by decide +kernel
theorem dX8_leastPeriod_1 : decode cX8_leastPeriod 1 = .ok (.istore_n 1, 1) := by decide +kernel
theorem dX8_leastPeriod_2 : decode cX8_leastPeriod 2 = .ok (.iload_n 1, 1) := by decide +kernel
theorem dX8_leastPeriod_3 : decode cX8_leastPeriod 3 = .ok (.aload_n 0, 1) := by decide +kernel
theorem dX8_leastPeriod_4 : decode cX8_leastPeriod 4 = .ok (.invokevirtual 19, 3) := by decide +kernel
theorem dX8_leastPeriod_7 : decode cX8_leastPeriod 7 = .ok (.if_icmp .ge 21, 3) := by decide +kernel
theorem dX8_leastPeriod_10 : decode cX8_leastPeriod 10 = .ok (.aload_n 0, 1) := by decide +kernel
theorem dX8_leastPeriod_11 : decode cX8_leastPeriod 11 = .ok (.aload_n 0, 1) := by decide +kernel
theorem dX8_leastPeriod_12 : decode cX8_leastPeriod 12 = .ok (.iload_n 1, 1) := by decide +kernel
theorem dX8_leastPeriod_13 : decode cX8_leastPeriod 13 = .ok (.iconst 0, 1) := by decide +kernel
theorem dX8_leastPeriod_14 : decode cX8_leastPeriod 14 = .ok (.invokevirtual 23, 3) := by decide +kernel
theorem dX8_leastPeriod_17 : decode cX8_leastPeriod 17 = .ok (.ifCond .eq 5, 3) := by decide +kernel
theorem dX8_leastPeriod_20 : decode cX8_leastPeriod 20 = .ok (.iload_n 1, 1) := by decide +kernel
theorem dX8_leastPeriod_21 : decode cX8_leastPeriod 21 = .ok (.ireturn, 1) := by decide +kernel
theorem dX8_leastPeriod_22 : decode cX8_leastPeriod 22 = .ok (.iinc 1 1, 3) := by decide +kernel
theorem dX8_leastPeriod_25 : decode cX8_leastPeriod 25 = .ok (.goto (-23), 3) := by decide +kernel
theorem dX8_leastPeriod_28 : decode cX8_leastPeriod 28 = .ok (.aload_n 0, 1) := by decide +kernel
theorem dX8_leastPeriod_29 : decode cX8_leastPeriod 29 = .ok (.invokevirtual 19, 3) := by decide +kernel
theorem dX8_leastPeriod_32 : decode cX8_leastPeriod 32 = .ok (.ireturn, 1) := by decide +kernel
theorem dX8_turningTo_0 : decode cX8_turningTo 0 = .ok (.iconst 0, 1) := by decide +kernel
theorem dX8_turningTo_1 : decode cX8_turningTo 1 = .ok (.istore_n 3, 1) := by decide +kernel
theorem dX8_turningTo_2 : decode cX8_turningTo 2 = .ok (.iload_n 3, 1) := by decide +kernel
theorem dX8_turningTo_3 : decode cX8_turningTo 3 = .ok (.aload_n 0, 1) := by decide +kernel
theorem dX8_turningTo_4 : decode cX8_turningTo 4 = .ok (.invokevirtual 19, 3) := by decide +kernel
theorem dX8_turningTo_7 : decode cX8_turningTo 7 = .ok (.if_icmp .ge 32, 3) := by decide +kernel
theorem dX8_turningTo_10 : decode cX8_turningTo 10 = .ok (.aload_n 0, 1) := by decide +kernel
theorem dX8_turningTo_11 : decode cX8_turningTo 11 = .ok (.invokevirtual 19, 3) := by decide +kernel
theorem dX8_turningTo_14 : decode cX8_turningTo 14 = .ok (.aload_n 1, 1) := by decide +kernel
theorem dX8_turningTo_15 : decode cX8_turningTo 15 = .ok (.invokevirtual 19, 3) := by decide +kernel
theorem dX8_turningTo_18 : decode cX8_turningTo 18 = .ok (.if_icmp .ne 21, 3) := by decide +kernel
theorem dX8_turningTo_21 : decode cX8_turningTo 21 = .ok (.aload_n 0, 1) := by decide +kernel
theorem dX8_turningTo_22 : decode cX8_turningTo 22 = .ok (.aload_n 1, 1) := by decide +kernel
theorem dX8_turningTo_23 : decode cX8_turningTo 23 = .ok (.iload_n 3, 1) := by decide +kernel
theorem dX8_turningTo_24 : decode cX8_turningTo 24 = .ok (.iload_n 2, 1) := by decide +kernel
theorem dX8_turningTo_25 : decode cX8_turningTo 25 = .ok (.invokevirtual 23, 3) := by decide +kernel
theorem dX8_turningTo_28 : decode cX8_turningTo 28 = .ok (.ifCond .eq 5, 3) := by decide +kernel
theorem dX8_turningTo_31 : decode cX8_turningTo 31 = .ok (.iload_n 3, 1) := by decide +kernel
theorem dX8_turningTo_32 : decode cX8_turningTo 32 = .ok (.ireturn, 1) := by decide +kernel
theorem dX8_turningTo_33 : decode cX8_turningTo 33 = .ok (.iinc 3 1, 3) := by decide +kernel
theorem dX8_turningTo_36 : decode cX8_turningTo 36 = .ok (.goto (-34), 3) := by decide +kernel
theorem dX8_turningTo_39 : decode cX8_turningTo 39 = .ok (.iconst (-1), 1) := by decide +kernel
theorem dX8_turningTo_40 : decode cX8_turningTo 40 = .ok (.ireturn, 1) := by decide +kernel
theorem dX8_isRow_0 : decode cX8_isRow 0 = .ok (.iconst 1, 1) := by decide +kernel
theorem dX8_isRow_1 : decode cX8_isRow 1 = .ok (.istore 4, 2) := by decide +kernel
theorem dX8_isRow_3 : decode cX8_isRow 3 = .ok (.iconst 0, 1) := by decide +kernel
theorem dX8_isRow_4 : decode cX8_isRow 4 = .ok (.istore 5, 2) := by decide +kernel
theorem dX8_isRow_6 : decode cX8_isRow 6 = .ok (.iload 5, 2) := by decide +kernel
theorem dX8_isRow_8 : decode cX8_isRow 8 = .ok (.aload_n 0, 1) := by decide +kernel
theorem dX8_isRow_9 : decode cX8_isRow 9 = .ok (.invokevirtual 19, 3) := by decide +kernel
theorem dX8_isRow_12 : decode cX8_isRow 12 = .ok (.if_icmp .ge 53, 3) := by decide +kernel
theorem dX8_isRow_15 : decode cX8_isRow 15 = .ok (.iload 4, 2) := by decide +kernel
theorem dX8_isRow_17 : decode cX8_isRow 17 = .ok (.ifCond .eq 48, 3) := by decide +kernel
theorem dX8_isRow_20 : decode cX8_isRow 20 = .ok (.iload_n 2, 1) := by decide +kernel
theorem dX8_isRow_21 : decode cX8_isRow 21 = .ok (.iload 5, 2) := by decide +kernel
theorem dX8_isRow_23 : decode cX8_isRow 23 = .ok (.iadd, 1) := by decide +kernel
theorem dX8_isRow_24 : decode cX8_isRow 24 = .ok (.istore 6, 2) := by decide +kernel
theorem dX8_isRow_26 : decode cX8_isRow 26 = .ok (.aload_n 0, 1) := by decide +kernel
theorem dX8_isRow_27 : decode cX8_isRow 27 = .ok (.iload_n 3, 1) := by decide +kernel
theorem dX8_isRow_28 : decode cX8_isRow 28 = .ok (.ifCond .eq 10, 3) := by decide +kernel
theorem dX8_isRow_31 : decode cX8_isRow 31 = .ok (.iconst (-1), 1) := by decide +kernel
theorem dX8_isRow_32 : decode cX8_isRow 32 = .ok (.iload 6, 2) := by decide +kernel
theorem dX8_isRow_34 : decode cX8_isRow 34 = .ok (.isub, 1) := by decide +kernel
theorem dX8_isRow_35 : decode cX8_isRow 35 = .ok (.goto 5, 3) := by decide +kernel
theorem dX8_isRow_38 : decode cX8_isRow 38 = .ok (.iload 6, 2) := by decide +kernel
theorem dX8_isRow_40 : decode cX8_isRow 40 = .ok (.invokevirtual 27, 3) := by decide +kernel
theorem dX8_isRow_43 : decode cX8_isRow 43 = .ok (.aload_n 1, 1) := by decide +kernel
theorem dX8_isRow_44 : decode cX8_isRow 44 = .ok (.iload 5, 2) := by decide +kernel
theorem dX8_isRow_46 : decode cX8_isRow 46 = .ok (.invokevirtual 27, 3) := by decide +kernel
theorem dX8_isRow_49 : decode cX8_isRow 49 = .ok (.if_icmp .ne 7, 3) := by decide +kernel
theorem dX8_isRow_52 : decode cX8_isRow 52 = .ok (.iconst 1, 1) := by decide +kernel
theorem dX8_isRow_53 : decode cX8_isRow 53 = .ok (.goto 4, 3) := by decide +kernel
theorem dX8_isRow_56 : decode cX8_isRow 56 = .ok (.iconst 0, 1) := by decide +kernel
theorem dX8_isRow_57 : decode cX8_isRow 57 = .ok (.istore 4, 2) := by decide +kernel
theorem dX8_isRow_59 : decode cX8_isRow 59 = .ok (.iinc 5 1, 3) := by decide +kernel
theorem dX8_isRow_62 : decode cX8_isRow 62 = .ok (.goto (-56), 3) := by decide +kernel
theorem dX8_isRow_65 : decode cX8_isRow 65 = .ok (.iload 4, 2) := by decide +kernel
theorem dX8_isRow_67 : decode cX8_isRow 67 = .ok (.ireturn, 1) := by decide +kernel
theorem dX8_leastTurning_0 : decode cX8_leastTurning 0 = .ok (.iconst 0, 1) := by decide +kernel
theorem dX8_leastTurning_1 : decode cX8_leastTurning 1 = .ok (.istore_n 1, 1) := by decide +kernel
theorem dX8_leastTurning_2 : decode cX8_leastTurning 2 = .ok (.iconst 1, 1) := by decide +kernel
theorem dX8_leastTurning_3 : decode cX8_leastTurning 3 = .ok (.istore_n 2, 1) := by decide +kernel
theorem dX8_leastTurning_4 : decode cX8_leastTurning 4 = .ok (.iload_n 2, 1) := by decide +kernel
theorem dX8_leastTurning_5 : decode cX8_leastTurning 5 = .ok (.aload_n 0, 1) := by decide +kernel
theorem dX8_leastTurning_6 : decode cX8_leastTurning 6 = .ok (.invokevirtual 19, 3) := by decide +kernel
theorem dX8_leastTurning_9 : decode cX8_leastTurning 9 = .ok (.if_icmp .ge 28, 3) := by decide +kernel
theorem dX8_leastTurning_12 : decode cX8_leastTurning 12 = .ok (.aload_n 0, 1) := by decide +kernel
theorem dX8_leastTurning_13 : decode cX8_leastTurning 13 = .ok (.iload_n 2, 1) := by decide +kernel
theorem dX8_leastTurning_14 : decode cX8_leastTurning 14 = .ok (.iload_n 1, 1) := by decide +kernel
theorem dX8_leastTurning_15 : decode cX8_leastTurning 15 = .ok (.aload_n 0, 1) := by decide +kernel
theorem dX8_leastTurning_16 : decode cX8_leastTurning 16 = .ok (.invokevirtual 19, 3) := by decide +kernel
theorem dX8_leastTurning_19 : decode cX8_leastTurning 19 = .ok (.invokevirtual 31, 3) := by decide +kernel
theorem dX8_leastTurning_22 : decode cX8_leastTurning 22 = .ok (.ifCond .ge 7, 3) := by decide +kernel
theorem dX8_leastTurning_25 : decode cX8_leastTurning 25 = .ok (.iload_n 2, 1) := by decide +kernel
theorem dX8_leastTurning_26 : decode cX8_leastTurning 26 = .ok (.goto 4, 3) := by decide +kernel
theorem dX8_leastTurning_29 : decode cX8_leastTurning 29 = .ok (.iload_n 1, 1) := by decide +kernel
theorem dX8_leastTurning_30 : decode cX8_leastTurning 30 = .ok (.istore_n 1, 1) := by decide +kernel
theorem dX8_leastTurning_31 : decode cX8_leastTurning 31 = .ok (.iinc 2 1, 3) := by decide +kernel
theorem dX8_leastTurning_34 : decode cX8_leastTurning 34 = .ok (.goto (-30), 3) := by decide +kernel
theorem dX8_leastTurning_37 : decode cX8_leastTurning 37 = .ok (.iload_n 1, 1) := by decide +kernel
theorem dX8_leastTurning_38 : decode cX8_leastTurning 38 = .ok (.ireturn, 1) := by decide +kernel
theorem dX8_unlikeRows_0 : decode cX8_unlikeRows 0 = .ok (.iconst 0, 1) := by decide +kernel
theorem dX8_unlikeRows_1 : decode cX8_unlikeRows 1 = .ok (.istore_n 2, 1) := by decide +kernel
theorem dX8_unlikeRows_2 : decode cX8_unlikeRows 2 = .ok (.iconst 0, 1) := by decide +kernel
theorem dX8_unlikeRows_3 : decode cX8_unlikeRows 3 = .ok (.istore_n 3, 1) := by decide +kernel
theorem dX8_unlikeRows_4 : decode cX8_unlikeRows 4 = .ok (.iload_n 3, 1) := by decide +kernel
theorem dX8_unlikeRows_5 : decode cX8_unlikeRows 5 = .ok (.aload_n 0, 1) := by decide +kernel
theorem dX8_unlikeRows_6 : decode cX8_unlikeRows 6 = .ok (.invokevirtual 19, 3) := by decide +kernel
theorem dX8_unlikeRows_9 : decode cX8_unlikeRows 9 = .ok (.if_icmp .ge 63, 3) := by decide +kernel
theorem dX8_unlikeRows_12 : decode cX8_unlikeRows 12 = .ok (.iconst 1, 1) := by decide +kernel
theorem dX8_unlikeRows_13 : decode cX8_unlikeRows 13 = .ok (.istore 4, 2) := by decide +kernel
theorem dX8_unlikeRows_15 : decode cX8_unlikeRows 15 = .ok (.iconst 0, 1) := by decide +kernel
theorem dX8_unlikeRows_16 : decode cX8_unlikeRows 16 = .ok (.istore 5, 2) := by decide +kernel
theorem dX8_unlikeRows_18 : decode cX8_unlikeRows 18 = .ok (.iload 5, 2) := by decide +kernel
theorem dX8_unlikeRows_20 : decode cX8_unlikeRows 20 = .ok (.iload_n 3, 1) := by decide +kernel
theorem dX8_unlikeRows_21 : decode cX8_unlikeRows 21 = .ok (.if_icmp .ge 32, 3) := by decide +kernel
theorem dX8_unlikeRows_24 : decode cX8_unlikeRows 24 = .ok (.iload 4, 2) := by decide +kernel
theorem dX8_unlikeRows_26 : decode cX8_unlikeRows 26 = .ok (.ifCond .eq 27, 3) := by decide +kernel
theorem dX8_unlikeRows_29 : decode cX8_unlikeRows 29 = .ok (.aload_n 0, 1) := by decide +kernel
theorem dX8_unlikeRows_30 : decode cX8_unlikeRows 30 = .ok (.iload_n 3, 1) := by decide +kernel
theorem dX8_unlikeRows_31 : decode cX8_unlikeRows 31 = .ok (.iload 5, 2) := by decide +kernel
theorem dX8_unlikeRows_33 : decode cX8_unlikeRows 33 = .ok (.iload_n 1, 1) := by decide +kernel
theorem dX8_unlikeRows_34 : decode cX8_unlikeRows 34 = .ok (.invokevirtual 31, 3) := by decide +kernel
theorem dX8_unlikeRows_37 : decode cX8_unlikeRows 37 = .ok (.ifCond .eq 7, 3) := by decide +kernel
theorem dX8_unlikeRows_40 : decode cX8_unlikeRows 40 = .ok (.iconst 1, 1) := by decide +kernel
theorem dX8_unlikeRows_41 : decode cX8_unlikeRows 41 = .ok (.goto 4, 3) := by decide +kernel
theorem dX8_unlikeRows_44 : decode cX8_unlikeRows 44 = .ok (.iconst 0, 1) := by decide +kernel
theorem dX8_unlikeRows_45 : decode cX8_unlikeRows 45 = .ok (.istore 4, 2) := by decide +kernel
theorem dX8_unlikeRows_47 : decode cX8_unlikeRows 47 = .ok (.iinc 5 1, 3) := by decide +kernel
theorem dX8_unlikeRows_50 : decode cX8_unlikeRows 50 = .ok (.goto (-32), 3) := by decide +kernel
theorem dX8_unlikeRows_53 : decode cX8_unlikeRows 53 = .ok (.iload_n 2, 1) := by decide +kernel
theorem dX8_unlikeRows_54 : decode cX8_unlikeRows 54 = .ok (.iload 4, 2) := by decide +kernel
theorem dX8_unlikeRows_56 : decode cX8_unlikeRows 56 = .ok (.ifCond .eq 7, 3) := by decide +kernel
theorem dX8_unlikeRows_59 : decode cX8_unlikeRows 59 = .ok (.iconst 1, 1) := by decide +kernel
theorem dX8_unlikeRows_60 : decode cX8_unlikeRows 60 = .ok (.goto 4, 3) := by decide +kernel
theorem dX8_unlikeRows_63 : decode cX8_unlikeRows 63 = .ok (.iconst 0, 1) := by decide +kernel
theorem dX8_unlikeRows_64 : decode cX8_unlikeRows 64 = .ok (.iadd, 1) := by decide +kernel
theorem dX8_unlikeRows_65 : decode cX8_unlikeRows 65 = .ok (.istore_n 2, 1) := by decide +kernel
theorem dX8_unlikeRows_66 : decode cX8_unlikeRows 66 = .ok (.iinc 3 1, 3) := by decide +kernel
theorem dX8_unlikeRows_69 : decode cX8_unlikeRows 69 = .ok (.goto (-65), 3) := by decide +kernel
theorem dX8_unlikeRows_72 : decode cX8_unlikeRows 72 = .ok (.iload_n 2, 1) := by decide +kernel
theorem dX8_unlikeRows_73 : decode cX8_unlikeRows 73 = .ok (.ireturn, 1) := by decide +kernel
theorem dX8_compareRows_0 : decode cX8_compareRows 0 = .ok (.iconst 0, 1) := by decide +kernel
theorem dX8_compareRows_1 : decode cX8_compareRows 1 = .ok (.istore 4, 2) := by decide +kernel
theorem dX8_compareRows_3 : decode cX8_compareRows 3 = .ok (.iload 4, 2) := by decide +kernel
theorem dX8_compareRows_5 : decode cX8_compareRows 5 = .ok (.iload_n 3, 1) := by decide +kernel
theorem dX8_compareRows_6 : decode cX8_compareRows 6 = .ok (.if_icmp .ge 38, 3) := by decide +kernel
theorem dX8_compareRows_9 : decode cX8_compareRows 9 = .ok (.aload_n 0, 1) := by decide +kernel
theorem dX8_compareRows_10 : decode cX8_compareRows 10 = .ok (.iload_n 1, 1) := by decide +kernel
theorem dX8_compareRows_11 : decode cX8_compareRows 11 = .ok (.iload 4, 2) := by decide +kernel
theorem dX8_compareRows_13 : decode cX8_compareRows 13 = .ok (.iadd, 1) := by decide +kernel
theorem dX8_compareRows_14 : decode cX8_compareRows 14 = .ok (.invokevirtual 27, 3) := by decide +kernel
theorem dX8_compareRows_17 : decode cX8_compareRows 17 = .ok (.aload_n 0, 1) := by decide +kernel
theorem dX8_compareRows_18 : decode cX8_compareRows 18 = .ok (.iload_n 2, 1) := by decide +kernel
theorem dX8_compareRows_19 : decode cX8_compareRows 19 = .ok (.iload 4, 2) := by decide +kernel
theorem dX8_compareRows_21 : decode cX8_compareRows 21 = .ok (.iadd, 1) := by decide +kernel
theorem dX8_compareRows_22 : decode cX8_compareRows 22 = .ok (.invokevirtual 27, 3) := by decide +kernel
theorem dX8_compareRows_25 : decode cX8_compareRows 25 = .ok (.invokestatic 35, 3) := by decide +kernel
theorem dX8_compareRows_28 : decode cX8_compareRows 28 = .ok (.istore 5, 2) := by decide +kernel
theorem dX8_compareRows_30 : decode cX8_compareRows 30 = .ok (.iload 5, 2) := by decide +kernel
theorem dX8_compareRows_32 : decode cX8_compareRows 32 = .ok (.ifCond .eq 6, 3) := by decide +kernel
theorem dX8_compareRows_35 : decode cX8_compareRows 35 = .ok (.iload 5, 2) := by decide +kernel
theorem dX8_compareRows_37 : decode cX8_compareRows 37 = .ok (.ireturn, 1) := by decide +kernel
theorem dX8_compareRows_38 : decode cX8_compareRows 38 = .ok (.iinc 4 1, 3) := by decide +kernel
theorem dX8_compareRows_41 : decode cX8_compareRows 41 = .ok (.goto (-38), 3) := by decide +kernel
theorem dX8_compareRows_44 : decode cX8_compareRows 44 = .ok (.iconst 0, 1) := by decide +kernel
theorem dX8_compareRows_45 : decode cX8_compareRows 45 = .ok (.ireturn, 1) := by decide +kernel
theorem dX9_init_0 : decode cX9_init 0 = .ok (.aload_n 0, 1) := by decide +kernel
theorem dX9_init_1 : decode cX9_init 1 = .ok (.invokespecial 3, 3) := by decide +kernel
theorem dX9_init_4 : decode cX9_init 4 = .ok (.aload_n 0, 1) := by decide +kernel
theorem dX9_init_5 : decode cX9_init 5 = .ok (.bipush 16, 2) := by decide +kernel
theorem dX9_init_7 : decode cX9_init 7 = .ok (.newarray .int, 2) := by decide +kernel
theorem dX9_init_9 : decode cX9_init 9 = .ok (.putfield 9, 3) := by decide +kernel
theorem dX9_init_12 : decode cX9_init 12 = .ok (.aload_n 0, 1) := by decide +kernel
theorem dX9_init_13 : decode cX9_init 13 = .ok (.iconst 0, 1) := by decide +kernel
theorem dX9_init_14 : decode cX9_init 14 = .ok (.putfield 15, 3) := by decide +kernel
theorem dX9_init_17 : decode cX9_init 17 = .ok (.return_, 1) := by decide +kernel
theorem dX9_isWhole_0 : decode cX9_isWhole 0 = .ok (.aload_n 0, 1) := by decide +kernel
theorem dX9_isWhole_1 : decode cX9_isWhole 1 = .ok (.iconst 0, 1) := by decide +kernel
theorem dX9_isWhole_2 : decode cX9_isWhole 2 = .ok (.putfield 15, 3) := by decide +kernel
theorem dX9_isWhole_5 : decode cX9_isWhole 5 = .ok (.iconst 0, 1) := by decide +kernel
theorem dX9_isWhole_6 : decode cX9_isWhole 6 = .ok (.istore_n 1, 1) := by decide +kernel
theorem dX9_isWhole_7 : decode cX9_isWhole 7 = .ok (.iload_n 1, 1) := by decide +kernel
theorem dX9_isWhole_8 : decode cX9_isWhole 8 = .ok (.sipush 240, 3) := by decide +kernel
theorem dX9_isWhole_11 : decode cX9_isWhole 11 = .ok (.if_icmp .gt 108, 3) := by decide +kernel
theorem dX9_isWhole_14 : decode cX9_isWhole 14 = .ok (.aload_n 0, 1) := by decide +kernel
theorem dX9_isWhole_15 : decode cX9_isWhole 15 = .ok (.invokevirtual 19, 3) := by decide +kernel
theorem dX9_isWhole_18 : decode cX9_isWhole 18 = .ok (.istore_n 2, 1) := by decide +kernel
theorem dX9_isWhole_19 : decode cX9_isWhole 19 = .ok (.iload_n 2, 1) := by decide +kernel
theorem dX9_isWhole_20 : decode cX9_isWhole 20 = .ok (.iconst (-1), 1) := by decide +kernel
theorem dX9_isWhole_21 : decode cX9_isWhole 21 = .ok (.if_icmp .ne 16, 3) := by decide +kernel
theorem dX9_isWhole_24 : decode cX9_isWhole 24 = .ok (.aload_n 0, 1) := by decide +kernel
theorem dX9_isWhole_25 : decode cX9_isWhole 25 = .ok (.getfield 15, 3) := by decide +kernel
theorem dX9_isWhole_28 : decode cX9_isWhole 28 = .ok (.ifCond .le 7, 3) := by decide +kernel
theorem dX9_isWhole_31 : decode cX9_isWhole 31 = .ok (.iconst 1, 1) := by decide +kernel
theorem dX9_isWhole_32 : decode cX9_isWhole 32 = .ok (.goto 4, 3) := by decide +kernel
theorem dX9_isWhole_35 : decode cX9_isWhole 35 = .ok (.iconst 0, 1) := by decide +kernel
theorem dX9_isWhole_36 : decode cX9_isWhole 36 = .ok (.ireturn, 1) := by decide +kernel
theorem dX9_isWhole_37 : decode cX9_isWhole 37 = .ok (.iconst 1, 1) := by decide +kernel
theorem dX9_isWhole_38 : decode cX9_isWhole 38 = .ok (.istore_n 3, 1) := by decide +kernel
theorem dX9_isWhole_39 : decode cX9_isWhole 39 = .ok (.iload_n 2, 1) := by decide +kernel
theorem dX9_isWhole_40 : decode cX9_isWhole 40 = .ok (.bipush 50, 2) := by decide +kernel
theorem dX9_isWhole_42 : decode cX9_isWhole 42 = .ok (.if_icmp .lt 29, 3) := by decide +kernel
theorem dX9_isWhole_45 : decode cX9_isWhole 45 = .ok (.iload_n 2, 1) := by decide +kernel
theorem dX9_isWhole_46 : decode cX9_isWhole 46 = .ok (.bipush 57, 2) := by decide +kernel
theorem dX9_isWhole_48 : decode cX9_isWhole 48 = .ok (.if_icmp .gt 23, 3) := by decide +kernel
theorem dX9_isWhole_51 : decode cX9_isWhole 51 = .ok (.iload_n 2, 1) := by decide +kernel
theorem dX9_isWhole_52 : decode cX9_isWhole 52 = .ok (.bipush 48, 2) := by decide +kernel
theorem dX9_isWhole_54 : decode cX9_isWhole 54 = .ok (.isub, 1) := by decide +kernel
theorem dX9_isWhole_55 : decode cX9_isWhole 55 = .ok (.istore_n 3, 1) := by decide +kernel
theorem dX9_isWhole_56 : decode cX9_isWhole 56 = .ok (.aload_n 0, 1) := by decide +kernel
theorem dX9_isWhole_57 : decode cX9_isWhole 57 = .ok (.dup, 1) := by decide +kernel
theorem dX9_isWhole_58 : decode cX9_isWhole 58 = .ok (.getfield 23, 3) := by decide +kernel
theorem dX9_isWhole_61 : decode cX9_isWhole 61 = .ok (.iconst 1, 1) := by decide +kernel
theorem dX9_isWhole_62 : decode cX9_isWhole 62 = .ok (.iadd, 1) := by decide +kernel
theorem dX9_isWhole_63 : decode cX9_isWhole 63 = .ok (.putfield 23, 3) := by decide +kernel
theorem dX9_isWhole_66 : decode cX9_isWhole 66 = .ok (.aload_n 0, 1) := by decide +kernel
theorem dX9_isWhole_67 : decode cX9_isWhole 67 = .ok (.invokevirtual 19, 3) := by decide +kernel
theorem dX9_isWhole_70 : decode cX9_isWhole 70 = .ok (.istore_n 2, 1) := by decide +kernel
theorem dX9_isWhole_71 : decode cX9_isWhole 71 = .ok (.iload_n 2, 1) := by decide +kernel
theorem dX9_isWhole_72 : decode cX9_isWhole 72 = .ok (.invokestatic 26, 3) := by decide +kernel
theorem dX9_isWhole_75 : decode cX9_isWhole 75 = .ok (.istore 4, 2) := by decide +kernel
theorem dX9_isWhole_77 : decode cX9_isWhole 77 = .ok (.iload 4, 2) := by decide +kernel
theorem dX9_isWhole_79 : decode cX9_isWhole 79 = .ok (.iconst (-1), 1) := by decide +kernel
theorem dX9_isWhole_80 : decode cX9_isWhole 80 = .ok (.if_icmp .eq 14, 3) := by decide +kernel
theorem dX9_isWhole_83 : decode cX9_isWhole 83 = .ok (.aload_n 0, 1) := by decide +kernel
theorem dX9_isWhole_84 : decode cX9_isWhole 84 = .ok (.getfield 15, 3) := by decide +kernel
theorem dX9_isWhole_87 : decode cX9_isWhole 87 = .ok (.iload_n 3, 1) := by decide +kernel
theorem dX9_isWhole_88 : decode cX9_isWhole 88 = .ok (.iadd, 1) := by decide +kernel
theorem dX9_isWhole_89 : decode cX9_isWhole 89 = .ok (.bipush 16, 2) := by decide +kernel
theorem dX9_isWhole_91 : decode cX9_isWhole 91 = .ok (.if_icmp .le 5, 3) := by decide +kernel
theorem dX9_isWhole_94 : decode cX9_isWhole 94 = .ok (.iconst 0, 1) := by decide +kernel
theorem dX9_isWhole_95 : decode cX9_isWhole 95 = .ok (.ireturn, 1) := by decide +kernel
theorem dX9_isWhole_96 : decode cX9_isWhole 96 = .ok (.aload_n 0, 1) := by decide +kernel
theorem dX9_isWhole_97 : decode cX9_isWhole 97 = .ok (.dup, 1) := by decide +kernel
theorem dX9_isWhole_98 : decode cX9_isWhole 98 = .ok (.getfield 23, 3) := by decide +kernel
theorem dX9_isWhole_101 : decode cX9_isWhole 101 = .ok (.iconst 1, 1) := by decide +kernel
theorem dX9_isWhole_102 : decode cX9_isWhole 102 = .ok (.iadd, 1) := by decide +kernel
theorem dX9_isWhole_103 : decode cX9_isWhole 103 = .ok (.putfield 23, 3) := by decide +kernel
theorem dX9_isWhole_106 : decode cX9_isWhole 106 = .ok (.aload_n 0, 1) := by decide +kernel
theorem dX9_isWhole_107 : decode cX9_isWhole 107 = .ok (.iload 4, 2) := by decide +kernel
theorem dX9_isWhole_109 : decode cX9_isWhole 109 = .ok (.iload_n 3, 1) := by decide +kernel
theorem dX9_isWhole_110 : decode cX9_isWhole 110 = .ok (.invokevirtual 30, 3) := by decide +kernel
theorem dX9_isWhole_113 : decode cX9_isWhole 113 = .ok (.iinc 1 1, 3) := by decide +kernel
theorem dX9_isWhole_116 : decode cX9_isWhole 116 = .ok (.goto (-109), 3) := by decide +kernel
theorem dX9_isWhole_119 : decode cX9_isWhole 119 = .ok (.iconst 0, 1) := by decide +kernel
theorem dX9_isWhole_120 : decode cX9_isWhole 120 = .ok (.ireturn, 1) := by decide +kernel
theorem dX9_pictureOf_0 : decode cX9_pictureOf 0 = .ok (.iload_n 0, 1) := by decide +kernel
theorem dX9_pictureOf_1 : decode cX9_pictureOf 1 = .ok (.bipush 97, 2) := by decide +kernel
theorem dX9_pictureOf_3 : decode cX9_pictureOf 3 = .ok (.if_icmp .lt 14, 3) := by decide +kernel
theorem dX9_pictureOf_6 : decode cX9_pictureOf 6 = .ok (.iload_n 0, 1) := by decide +kernel
theorem dX9_pictureOf_7 : decode cX9_pictureOf 7 = .ok (.bipush 122, 2) := by decide +kernel
theorem dX9_pictureOf_9 : decode cX9_pictureOf 9 = .ok (.if_icmp .gt 8, 3) := by decide +kernel
theorem dX9_pictureOf_12 : decode cX9_pictureOf 12 = .ok (.iload_n 0, 1) := by decide +kernel
theorem dX9_pictureOf_13 : decode cX9_pictureOf 13 = .ok (.bipush 97, 2) := by decide +kernel
theorem dX9_pictureOf_15 : decode cX9_pictureOf 15 = .ok (.isub, 1) := by decide +kernel
theorem dX9_pictureOf_16 : decode cX9_pictureOf 16 = .ok (.ireturn, 1) := by decide +kernel
theorem dX9_pictureOf_17 : decode cX9_pictureOf 17 = .ok (.iload_n 0, 1) := by decide +kernel
theorem dX9_pictureOf_18 : decode cX9_pictureOf 18 = .ok (.bipush 46, 2) := by decide +kernel
theorem dX9_pictureOf_20 : decode cX9_pictureOf 20 = .ok (.if_icmp .ne 8, 3) := by decide +kernel
theorem dX9_pictureOf_23 : decode cX9_pictureOf 23 = .ok (.bipush 26, 2) := by decide +kernel
theorem dX9_pictureOf_25 : decode cX9_pictureOf 25 = .ok (.goto 4, 3) := by decide +kernel
theorem dX9_pictureOf_28 : decode cX9_pictureOf 28 = .ok (.iconst (-1), 1) := by decide +kernel
theorem dX9_pictureOf_29 : decode cX9_pictureOf 29 = .ok (.ireturn, 1) := by decide +kernel
theorem dX9_add_0 : decode cX9_add 0 = .ok (.iconst 0, 1) := by decide +kernel
theorem dX9_add_1 : decode cX9_add 1 = .ok (.istore_n 3, 1) := by decide +kernel
theorem dX9_add_2 : decode cX9_add 2 = .ok (.iload_n 3, 1) := by decide +kernel
theorem dX9_add_3 : decode cX9_add 3 = .ok (.iload_n 2, 1) := by decide +kernel
theorem dX9_add_4 : decode cX9_add 4 = .ok (.if_icmp .ge 41, 3) := by decide +kernel
theorem dX9_add_7 : decode cX9_add 7 = .ok (.aload_n 0, 1) := by decide +kernel
theorem dX9_add_8 : decode cX9_add 8 = .ok (.getfield 15, 3) := by decide +kernel
theorem dX9_add_11 : decode cX9_add 11 = .ok (.aload_n 0, 1) := by decide +kernel
theorem dX9_add_12 : decode cX9_add 12 = .ok (.getfield 9, 3) := by decide +kernel
theorem dX9_add_15 : decode cX9_add 15 = .ok (.arraylength, 1) := by decide +kernel
theorem dX9_add_16 : decode cX9_add 16 = .ok (.if_icmp .ge 29, 3) := by decide +kernel
theorem dX9_add_19 : decode cX9_add 19 = .ok (.aload_n 0, 1) := by decide +kernel
theorem dX9_add_20 : decode cX9_add 20 = .ok (.getfield 9, 3) := by decide +kernel
theorem dX9_add_23 : decode cX9_add 23 = .ok (.aload_n 0, 1) := by decide +kernel
theorem dX9_add_24 : decode cX9_add 24 = .ok (.getfield 15, 3) := by decide +kernel
theorem dX9_add_27 : decode cX9_add 27 = .ok (.iload_n 1, 1) := by decide +kernel
theorem dX9_add_28 : decode cX9_add 28 = .ok (.iastore, 1) := by decide +kernel
theorem dX9_add_29 : decode cX9_add 29 = .ok (.aload_n 0, 1) := by decide +kernel
theorem dX9_add_30 : decode cX9_add 30 = .ok (.dup, 1) := by decide +kernel
theorem dX9_add_31 : decode cX9_add 31 = .ok (.getfield 15, 3) := by decide +kernel
theorem dX9_add_34 : decode cX9_add 34 = .ok (.iconst 1, 1) := by decide +kernel
theorem dX9_add_35 : decode cX9_add 35 = .ok (.iadd, 1) := by decide +kernel
theorem dX9_add_36 : decode cX9_add 36 = .ok (.putfield 15, 3) := by decide +kernel
theorem dX9_add_39 : decode cX9_add 39 = .ok (.iinc 3 1, 3) := by decide +kernel
theorem dX9_add_42 : decode cX9_add 42 = .ok (.goto (-40), 3) := by decide +kernel
theorem dX9_add_45 : decode cX9_add 45 = .ok (.return_, 1) := by decide +kernel
theorem dX9_written_0 : decode cX9_written 0 = .ok (.aload_n 0, 1) := by decide +kernel
theorem dX9_written_1 : decode cX9_written 1 = .ok (.getfield 9, 3) := by decide +kernel
theorem dX9_written_4 : decode cX9_written 4 = .ok (.aload_n 0, 1) := by decide +kernel
theorem dX9_written_5 : decode cX9_written 5 = .ok (.getfield 15, 3) := by decide +kernel
theorem dX9_written_8 : decode cX9_written 8 = .ok (.invokestatic 34, 3) := by decide +kernel
theorem dX9_written_11 : decode cX9_written 11 = .ok (.areturn, 1) := by decide +kernel
theorem dX10_init_0 : decode cX10_init 0 = .ok (.aload_n 0, 1) := by decide +kernel
theorem dX10_init_1 : decode cX10_init 1 = .ok (.invokespecial 1, 3) := by decide +kernel
theorem dX10_init_4 : decode cX10_init 4 = .ok (.aload_n 0, 1) := by decide +kernel
theorem dX10_init_5 : decode cX10_init 5 = .ok (.iconst 0, 1) := by decide +kernel
theorem dX10_init_6 : decode cX10_init 6 = .ok (.putfield 7, 3) := by decide +kernel
theorem dX10_init_9 : decode cX10_init 9 = .ok (.aload_n 0, 1) := by decide +kernel
theorem dX10_init_10 : decode cX10_init 10 = .ok (.iconst 0, 1) := by decide +kernel
theorem dX10_init_11 : decode cX10_init 11 = .ok (.putfield 13, 3) := by decide +kernel
theorem dX10_init_14 : decode cX10_init 14 = .ok (.aload_n 0, 1) := by decide +kernel
theorem dX10_init_15 : decode cX10_init 15 = .ok (.iconst 0, 1) := by decide +kernel
theorem dX10_init_16 : decode cX10_init 16 = .ok (.putfield 17, 3) := by decide +kernel
theorem dX10_init_19 : decode cX10_init 19 = .ok (.aload_n 0, 1) := by decide +kernel
theorem dX10_init_20 : decode cX10_init 20 = .ok (.iconst 0, 1) := by decide +kernel
theorem dX10_init_21 : decode cX10_init 21 = .ok (.putfield 20, 3) := by decide +kernel
theorem dX10_init_24 : decode cX10_init 24 = .ok (.return_, 1) := by decide +kernel
theorem dX10_velocity_0 : decode cX10_velocity 0 = .ok (.aload_n 0, 1) := by decide +kernel
theorem dX10_velocity_1 : decode cX10_velocity 1 = .ok (.getfield 13, 3) := by decide +kernel
theorem dX10_velocity_4 : decode cX10_velocity 4 = .ok (.ifCond .eq 11, 3) := by decide +kernel
theorem dX10_velocity_7 : decode cX10_velocity 7 = .ok (.aload_n 0, 1) := by decide +kernel
theorem dX10_velocity_8 : decode cX10_velocity 8 = .ok (.getfield 7, 3) := by decide +kernel
theorem dX10_velocity_11 : decode cX10_velocity 11 = .ok (.ineg, 1) := by decide +kernel
theorem dX10_velocity_12 : decode cX10_velocity 12 = .ok (.goto 7, 3) := by decide +kernel
theorem dX10_velocity_15 : decode cX10_velocity 15 = .ok (.aload_n 0, 1) := by decide +kernel
theorem dX10_velocity_16 : decode cX10_velocity 16 = .ok (.getfield 7, 3) := by decide +kernel
theorem dX10_velocity_19 : decode cX10_velocity 19 = .ok (.ireturn, 1) := by decide +kernel
theorem dX10_copyFrom_0 : decode cX10_copyFrom 0 = .ok (.aload_n 0, 1) := by decide +kernel
theorem dX10_copyFrom_1 : decode cX10_copyFrom 1 = .ok (.aload_n 1, 1) := by decide +kernel
theorem dX10_copyFrom_2 : decode cX10_copyFrom 2 = .ok (.getfield 7, 3) := by decide +kernel
theorem dX10_copyFrom_5 : decode cX10_copyFrom 5 = .ok (.putfield 7, 3) := by decide +kernel
theorem dX10_copyFrom_8 : decode cX10_copyFrom 8 = .ok (.aload_n 0, 1) := by decide +kernel
theorem dX10_copyFrom_9 : decode cX10_copyFrom 9 = .ok (.aload_n 1, 1) := by decide +kernel
theorem dX10_copyFrom_10 : decode cX10_copyFrom 10 = .ok (.getfield 13, 3) := by decide +kernel
theorem dX10_copyFrom_13 : decode cX10_copyFrom 13 = .ok (.putfield 13, 3) := by decide +kernel
theorem dX10_copyFrom_16 : decode cX10_copyFrom 16 = .ok (.aload_n 0, 1) := by decide +kernel
theorem dX10_copyFrom_17 : decode cX10_copyFrom 17 = .ok (.aload_n 1, 1) := by decide +kernel
theorem dX10_copyFrom_18 : decode cX10_copyFrom 18 = .ok (.getfield 17, 3) := by decide +kernel
theorem dX10_copyFrom_21 : decode cX10_copyFrom 21 = .ok (.putfield 17, 3) := by decide +kernel
theorem dX10_copyFrom_24 : decode cX10_copyFrom 24 = .ok (.aload_n 0, 1) := by decide +kernel
theorem dX10_copyFrom_25 : decode cX10_copyFrom 25 = .ok (.aload_n 1, 1) := by decide +kernel
theorem dX10_copyFrom_26 : decode cX10_copyFrom 26 = .ok (.getfield 20, 3) := by decide +kernel
theorem dX10_copyFrom_29 : decode cX10_copyFrom 29 = .ok (.putfield 20, 3) := by decide +kernel
theorem dX10_copyFrom_32 : decode cX10_copyFrom 32 = .ok (.return_, 1) := by decide +kernel
theorem dX11_init_0 : decode cX11_init 0 = .ok (.aload_n 0, 1) := by decide +kernel
theorem dX11_init_1 : decode cX11_init 1 = .ok (.invokespecial 1, 3) := by decide +kernel
theorem dX11_init_4 : decode cX11_init 4 = .ok (.aload_n 0, 1) := by decide +kernel
theorem dX11_init_5 : decode cX11_init 5 = .ok (.sipush 240, 3) := by decide +kernel
theorem dX11_init_8 : decode cX11_init 8 = .ok (.newarray .int, 2) := by decide +kernel
theorem dX11_init_10 : decode cX11_init 10 = .ok (.putfield 9, 3) := by decide +kernel
theorem dX11_init_13 : decode cX11_init 13 = .ok (.aload_n 0, 1) := by decide +kernel
theorem dX11_init_14 : decode cX11_init 14 = .ok (.iconst 0, 1) := by decide +kernel
theorem dX11_init_15 : decode cX11_init 15 = .ok (.putfield 13, 3) := by decide +kernel
theorem dX11_init_18 : decode cX11_init 18 = .ok (.aload_n 0, 1) := by decide +kernel
theorem dX11_init_19 : decode cX11_init 19 = .ok (.new 17, 3) := by decide +kernel
theorem dX11_init_22 : decode cX11_init 22 = .ok (.dup, 1) := by decide +kernel
theorem dX11_init_23 : decode cX11_init 23 = .ok (.invokespecial 19, 3) := by decide +kernel
theorem dX11_init_26 : decode cX11_init 26 = .ok (.putfield 20, 3) := by decide +kernel
theorem dX11_init_29 : decode cX11_init 29 = .ok (.aload_n 0, 1) := by decide +kernel
theorem dX11_init_30 : decode cX11_init 30 = .ok (.new 24, 3) := by decide +kernel
theorem dX11_init_33 : decode cX11_init 33 = .ok (.dup, 1) := by decide +kernel
theorem dX11_init_34 : decode cX11_init 34 = .ok (.invokespecial 26, 3) := by decide +kernel
theorem dX11_init_37 : decode cX11_init 37 = .ok (.putfield 27, 3) := by decide +kernel
theorem dX11_init_40 : decode cX11_init 40 = .ok (.aload_n 0, 1) := by decide +kernel
theorem dX11_init_41 : decode cX11_init 41 = .ok (.new 31, 3) := by decide +kernel
theorem dX11_init_44 : decode cX11_init 44 = .ok (.dup, 1) := by decide +kernel
theorem dX11_init_45 : decode cX11_init 45 = .ok (.invokespecial 33, 3) := by decide +kernel
theorem dX11_init_48 : decode cX11_init 48 = .ok (.putfield 34, 3) := by decide +kernel
theorem dX11_init_51 : decode cX11_init 51 = .ok (.aload_n 0, 1) := by decide +kernel
theorem dX11_init_52 : decode cX11_init 52 = .ok (.iconst 4, 1) := by decide +kernel
theorem dX11_init_53 : decode cX11_init 53 = .ok (.anewarray 38, 3) := by decide +kernel
theorem dX11_init_56 : decode cX11_init 56 = .ok (.putfield 40, 3) := by decide +kernel
theorem dX11_init_59 : decode cX11_init 59 = .ok (.aload_n 0, 1) := by decide +kernel
theorem dX11_init_60 : decode cX11_init 60 = .ok (.iconst 0, 1) := by decide +kernel
theorem dX11_init_61 : decode cX11_init 61 = .ok (.putfield 44, 3) := by decide +kernel
theorem dX11_init_64 : decode cX11_init 64 = .ok (.aload_n 0, 1) := by decide +kernel
theorem dX11_init_65 : decode cX11_init 65 = .ok (.iconst (-1), 1) := by decide +kernel
theorem dX11_init_66 : decode cX11_init 66 = .ok (.putfield 47, 3) := by decide +kernel
theorem dX11_init_69 : decode cX11_init 69 = .ok (.aload_n 0, 1) := by decide +kernel
theorem dX11_init_70 : decode cX11_init 70 = .ok (.bipush 6, 2) := by decide +kernel
theorem dX11_init_72 : decode cX11_init 72 = .ok (.anewarray 50, 3) := by decide +kernel
theorem dX11_init_75 : decode cX11_init 75 = .ok (.putfield 52, 3) := by decide +kernel
theorem dX11_init_78 : decode cX11_init 78 = .ok (.aload_n 0, 1) := by decide +kernel
theorem dX11_init_79 : decode cX11_init 79 = .ok (.iconst 0, 1) := by decide +kernel
theorem dX11_init_80 : decode cX11_init 80 = .ok (.putfield 56, 3) := by decide +kernel
theorem dX11_init_83 : decode cX11_init 83 = .ok (.aload_n 0, 1) := by decide +kernel
theorem dX11_init_84 : decode cX11_init 84 = .ok (.new 50, 3) := by decide +kernel
theorem dX11_init_87 : decode cX11_init 87 = .ok (.dup, 1) := by decide +kernel
theorem dX11_init_88 : decode cX11_init 88 = .ok (.iconst 1, 1) := by decide +kernel
theorem dX11_init_89 : decode cX11_init 89 = .ok (.newarray .int, 2) := by decide +kernel
theorem dX11_init_91 : decode cX11_init 91 = .ok (.dup, 1) := by decide +kernel
theorem dX11_init_92 : decode cX11_init 92 = .ok (.iconst 0, 1) := by decide +kernel
theorem dX11_init_93 : decode cX11_init 93 = .ok (.bipush 26, 2) := by decide +kernel
theorem dX11_init_95 : decode cX11_init 95 = .ok (.iastore, 1) := by decide +kernel
theorem dX11_init_96 : decode cX11_init 96 = .ok (.invokespecial 59, 3) := by decide +kernel
theorem dX11_init_99 : decode cX11_init 99 = .ok (.putfield 62, 3) := by decide +kernel
theorem dX11_init_102 : decode cX11_init 102 = .ok (.aload_n 0, 1) := by decide +kernel
theorem dX11_init_103 : decode cX11_init 103 = .ok (.iconst 3, 1) := by decide +kernel
theorem dX11_init_104 : decode cX11_init 104 = .ok (.putfield 66, 3) := by decide +kernel
theorem dX11_init_107 : decode cX11_init 107 = .ok (.aload_n 0, 1) := by decide +kernel
theorem dX11_init_108 : decode cX11_init 108 = .ok (.iconst 5, 1) := by decide +kernel
theorem dX11_init_109 : decode cX11_init 109 = .ok (.newarray .int, 2) := by decide +kernel
theorem dX11_init_111 : decode cX11_init 111 = .ok (.putfield 69, 3) := by decide +kernel
theorem dX11_init_114 : decode cX11_init 114 = .ok (.aload_n 0, 1) := by decide +kernel
theorem dX11_init_115 : decode cX11_init 115 = .ok (.new 72, 3) := by decide +kernel
theorem dX11_init_118 : decode cX11_init 118 = .ok (.dup, 1) := by decide +kernel
theorem dX11_init_119 : decode cX11_init 119 = .ok (.invokespecial 74, 3) := by decide +kernel
theorem dX11_init_122 : decode cX11_init 122 = .ok (.putfield 75, 3) := by decide +kernel
theorem dX11_init_125 : decode cX11_init 125 = .ok (.aload_n 0, 1) := by decide +kernel
theorem dX11_init_126 : decode cX11_init 126 = .ok (.new 79, 3) := by decide +kernel
theorem dX11_init_129 : decode cX11_init 129 = .ok (.dup, 1) := by decide +kernel
theorem dX11_init_130 : decode cX11_init 130 = .ok (.invokespecial 81, 3) := by decide +kernel
theorem dX11_init_133 : decode cX11_init 133 = .ok (.putfield 82, 3) := by decide +kernel
theorem dX11_init_136 : decode cX11_init 136 = .ok (.aload_n 0, 1) := by decide +kernel
theorem dX11_init_137 : decode cX11_init 137 = .ok (.new 72, 3) := by decide +kernel
theorem dX11_init_140 : decode cX11_init 140 = .ok (.dup, 1) := by decide +kernel
theorem dX11_init_141 : decode cX11_init 141 = .ok (.invokespecial 74, 3) := by decide +kernel
theorem dX11_init_144 : decode cX11_init 144 = .ok (.putfield 86, 3) := by decide +kernel
theorem dX11_init_147 : decode cX11_init 147 = .ok (.aload_n 0, 1) := by decide +kernel
theorem dX11_init_148 : decode cX11_init 148 = .ok (.iconst 0, 1) := by decide +kernel
theorem dX11_init_149 : decode cX11_init 149 = .ok (.putfield 89, 3) := by decide +kernel
theorem dX11_init_152 : decode cX11_init 152 = .ok (.aload_n 0, 1) := by decide +kernel
theorem dX11_init_153 : decode cX11_init 153 = .ok (.new 93, 3) := by decide +kernel
theorem dX11_init_156 : decode cX11_init 156 = .ok (.dup, 1) := by decide +kernel
theorem dX11_init_157 : decode cX11_init 157 = .ok (.invokespecial 95, 3) := by decide +kernel
theorem dX11_init_160 : decode cX11_init 160 = .ok (.putfield 96, 3) := by decide +kernel
theorem dX11_init_163 : decode cX11_init 163 = .ok (.aload_n 0, 1) := by decide +kernel
theorem dX11_init_164 : decode cX11_init 164 = .ok (.iconst 4, 1) := by decide +kernel
theorem dX11_init_165 : decode cX11_init 165 = .ok (.anewarray 100, 3) := by decide +kernel
theorem dX11_init_168 : decode cX11_init 168 = .ok (.putfield 102, 3) := by decide +kernel
theorem dX11_init_171 : decode cX11_init 171 = .ok (.aload_n 0, 1) := by decide +kernel
theorem dX11_init_172 : decode cX11_init 172 = .ok (.lconst 0, 1) := by decide +kernel
theorem dX11_init_173 : decode cX11_init 173 = .ok (.putfield 106, 3) := by decide +kernel
theorem dX11_init_176 : decode cX11_init 176 = .ok (.iconst 0, 1) := by decide +kernel
theorem dX11_init_177 : decode cX11_init 177 = .ok (.istore_n 1, 1) := by decide +kernel
theorem dX11_init_178 : decode cX11_init 178 = .ok (.iload_n 1, 1) := by decide +kernel
theorem dX11_init_179 : decode cX11_init 179 = .ok (.aload_n 0, 1) := by decide +kernel
theorem dX11_init_180 : decode cX11_init 180 = .ok (.getfield 102, 3) := by decide +kernel
theorem dX11_init_183 : decode cX11_init 183 = .ok (.arraylength, 1) := by decide +kernel
theorem dX11_init_184 : decode cX11_init 184 = .ok (.if_icmp .ge 22, 3) := by decide +kernel
theorem dX11_init_187 : decode cX11_init 187 = .ok (.aload_n 0, 1) := by decide +kernel
theorem dX11_init_188 : decode cX11_init 188 = .ok (.getfield 102, 3) := by decide +kernel
theorem dX11_init_191 : decode cX11_init 191 = .ok (.iload_n 1, 1) := by decide +kernel
theorem dX11_init_192 : decode cX11_init 192 = .ok (.new 100, 3) := by decide +kernel
theorem dX11_init_195 : decode cX11_init 195 = .ok (.dup, 1) := by decide +kernel
theorem dX11_init_196 : decode cX11_init 196 = .ok (.invokespecial 110, 3) := by decide +kernel
theorem dX11_init_199 : decode cX11_init 199 = .ok (.aastore, 1) := by decide +kernel
theorem dX11_init_200 : decode cX11_init 200 = .ok (.iinc 1 1, 3) := by decide +kernel
theorem dX11_init_203 : decode cX11_init 203 = .ok (.goto (-25), 3) := by decide +kernel
theorem dX11_init_206 : decode cX11_init 206 = .ok (.return_, 1) := by decide +kernel
theorem dX11_feed_0 : decode cX11_feed 0 = .ok (.iload_n 1, 1) := by decide +kernel
theorem dX11_feed_1 : decode cX11_feed 1 = .ok (.invokestatic 111, 3) := by decide +kernel
theorem dX11_feed_4 : decode cX11_feed 4 = .ok (.iload_n 2, 1) := by decide +kernel
theorem dX11_feed_5 : decode cX11_feed 5 = .ok (.invokestatic 111, 3) := by decide +kernel
theorem dX11_feed_8 : decode cX11_feed 8 = .ok (.iadd, 1) := by decide +kernel
theorem dX11_feed_9 : decode cX11_feed 9 = .ok (.iload_n 3, 1) := by decide +kernel
theorem dX11_feed_10 : decode cX11_feed 10 = .ok (.invokestatic 111, 3) := by decide +kernel
theorem dX11_feed_13 : decode cX11_feed 13 = .ok (.iadd, 1) := by decide +kernel
theorem dX11_feed_14 : decode cX11_feed 14 = .ok (.iload 4, 2) := by decide +kernel
theorem dX11_feed_16 : decode cX11_feed 16 = .ok (.invokestatic 111, 3) := by decide +kernel
theorem dX11_feed_19 : decode cX11_feed 19 = .ok (.iadd, 1) := by decide +kernel
theorem dX11_feed_20 : decode cX11_feed 20 = .ok (.iload 5, 2) := by decide +kernel
theorem dX11_feed_22 : decode cX11_feed 22 = .ok (.invokestatic 111, 3) := by decide +kernel
theorem dX11_feed_25 : decode cX11_feed 25 = .ok (.iadd, 1) := by decide +kernel
theorem dX11_feed_26 : decode cX11_feed 26 = .ok (.istore 6, 2) := by decide +kernel
theorem dX11_feed_28 : decode cX11_feed 28 = .ok (.aload_n 0, 1) := by decide +kernel
theorem dX11_feed_29 : decode cX11_feed 29 = .ok (.getfield 13, 3) := by decide +kernel
theorem dX11_feed_32 : decode cX11_feed 32 = .ok (.iload 6, 2) := by decide +kernel
theorem dX11_feed_34 : decode cX11_feed 34 = .ok (.iadd, 1) := by decide +kernel
theorem dX11_feed_35 : decode cX11_feed 35 = .ok (.sipush 240, 3) := by decide +kernel
theorem dX11_feed_38 : decode cX11_feed 38 = .ok (.if_icmp .le 5, 3) := by decide +kernel
theorem dX11_feed_41 : decode cX11_feed 41 = .ok (.iconst (-1), 1) := by decide +kernel
theorem dX11_feed_42 : decode cX11_feed 42 = .ok (.ireturn, 1) := by decide +kernel
theorem dX11_feed_43 : decode cX11_feed 43 = .ok (.aload_n 0, 1) := by decide +kernel
theorem dX11_feed_44 : decode cX11_feed 44 = .ok (.iload_n 1, 1) := by decide +kernel
theorem dX11_feed_45 : decode cX11_feed 45 = .ok (.invokevirtual 115, 3) := by decide +kernel
theorem dX11_feed_48 : decode cX11_feed 48 = .ok (.aload_n 0, 1) := by decide +kernel
theorem dX11_feed_49 : decode cX11_feed 49 = .ok (.iload_n 2, 1) := by decide +kernel
theorem dX11_feed_50 : decode cX11_feed 50 = .ok (.invokevirtual 115, 3) := by decide +kernel
theorem dX11_feed_53 : decode cX11_feed 53 = .ok (.aload_n 0, 1) := by decide +kernel
theorem dX11_feed_54 : decode cX11_feed 54 = .ok (.iload_n 3, 1) := by decide +kernel
theorem dX11_feed_55 : decode cX11_feed 55 = .ok (.invokevirtual 115, 3) := by decide +kernel
theorem dX11_feed_58 : decode cX11_feed 58 = .ok (.aload_n 0, 1) := by decide +kernel
theorem dX11_feed_59 : decode cX11_feed 59 = .ok (.iload 4, 2) := by decide +kernel
theorem dX11_feed_61 : decode cX11_feed 61 = .ok (.invokevirtual 115, 3) := by decide +kernel
theorem dX11_feed_64 : decode cX11_feed 64 = .ok (.aload_n 0, 1) := by decide +kernel
theorem dX11_feed_65 : decode cX11_feed 65 = .ok (.iload 5, 2) := by decide +kernel
theorem dX11_feed_67 : decode cX11_feed 67 = .ok (.invokevirtual 115, 3) := by decide +kernel
theorem dX11_feed_70 : decode cX11_feed 70 = .ok (.aload_n 0, 1) := by decide +kernel
theorem dX11_feed_71 : decode cX11_feed 71 = .ok (.getfield 13, 3) := by decide +kernel
theorem dX11_feed_74 : decode cX11_feed 74 = .ok (.ireturn, 1) := by decide +kernel
theorem dX11_bytesIn_0 : decode cX11_bytesIn 0 = .ok (.iconst 0, 1) := by decide +kernel
theorem dX11_bytesIn_1 : decode cX11_bytesIn 1 = .ok (.istore_n 1, 1) := by decide +kernel
theorem dX11_bytesIn_2 : decode cX11_bytesIn 2 = .ok (.bipush 24, 2) := by decide +kernel
theorem dX11_bytesIn_4 : decode cX11_bytesIn 4 = .ok (.istore_n 2, 1) := by decide +kernel
theorem dX11_bytesIn_5 : decode cX11_bytesIn 5 = .ok (.iload_n 2, 1) := by decide +kernel
theorem dX11_bytesIn_6 : decode cX11_bytesIn 6 = .ok (.ifCond .lt 27, 3) := by decide +kernel
theorem dX11_bytesIn_9 : decode cX11_bytesIn 9 = .ok (.iload_n 1, 1) := by decide +kernel
theorem dX11_bytesIn_10 : decode cX11_bytesIn 10 = .ok (.iload_n 0, 1) := by decide +kernel
theorem dX11_bytesIn_11 : decode cX11_bytesIn 11 = .ok (.iload_n 2, 1) := by decide +kernel
theorem dX11_bytesIn_12 : decode cX11_bytesIn 12 = .ok (.iushr, 1) := by decide +kernel
theorem dX11_bytesIn_13 : decode cX11_bytesIn 13 = .ok (.sipush 255, 3) := by decide +kernel
theorem dX11_bytesIn_16 : decode cX11_bytesIn 16 = .ok (.iand, 1) := by decide +kernel
theorem dX11_bytesIn_17 : decode cX11_bytesIn 17 = .ok (.ifCond .eq 7, 3) := by decide +kernel
theorem dX11_bytesIn_20 : decode cX11_bytesIn 20 = .ok (.iconst 1, 1) := by decide +kernel
theorem dX11_bytesIn_21 : decode cX11_bytesIn 21 = .ok (.goto 4, 3) := by decide +kernel
theorem dX11_bytesIn_24 : decode cX11_bytesIn 24 = .ok (.iconst 0, 1) := by decide +kernel
theorem dX11_bytesIn_25 : decode cX11_bytesIn 25 = .ok (.iadd, 1) := by decide +kernel
theorem dX11_bytesIn_26 : decode cX11_bytesIn 26 = .ok (.istore_n 1, 1) := by decide +kernel
theorem dX11_bytesIn_27 : decode cX11_bytesIn 27 = .ok (.iinc 2 (-8), 3) := by decide +kernel
theorem dX11_bytesIn_30 : decode cX11_bytesIn 30 = .ok (.goto (-25), 3) := by decide +kernel
theorem dX11_bytesIn_33 : decode cX11_bytesIn 33 = .ok (.iload_n 1, 1) := by decide +kernel
theorem dX11_bytesIn_34 : decode cX11_bytesIn 34 = .ok (.ireturn, 1) := by decide +kernel
theorem dX11_record_0 : decode cX11_record 0 = .ok (.bipush 24, 2) := by decide +kernel
theorem dX11_record_2 : decode cX11_record 2 = .ok (.istore_n 2, 1) := by decide +kernel
theorem dX11_record_3 : decode cX11_record 3 = .ok (.iload_n 2, 1) := by decide +kernel
theorem dX11_record_4 : decode cX11_record 4 = .ok (.ifCond .lt 53, 3) := by decide +kernel
theorem dX11_record_7 : decode cX11_record 7 = .ok (.iload_n 1, 1) := by decide +kernel
theorem dX11_record_8 : decode cX11_record 8 = .ok (.iload_n 2, 1) := by decide +kernel
theorem dX11_record_9 : decode cX11_record 9 = .ok (.iushr, 1) := by decide +kernel
theorem dX11_record_10 : decode cX11_record 10 = .ok (.sipush 255, 3) := by decide +kernel
theorem dX11_record_13 : decode cX11_record 13 = .ok (.iand, 1) := by decide +kernel
theorem dX11_record_14 : decode cX11_record 14 = .ok (.istore_n 3, 1) := by decide +kernel
theorem dX11_record_15 : decode cX11_record 15 = .ok (.iload_n 3, 1) := by decide +kernel
theorem dX11_record_16 : decode cX11_record 16 = .ok (.ifCond .eq 35, 3) := by decide +kernel
theorem dX11_record_19 : decode cX11_record 19 = .ok (.aload_n 0, 1) := by decide +kernel
theorem dX11_record_20 : decode cX11_record 20 = .ok (.getfield 13, 3) := by decide +kernel
theorem dX11_record_23 : decode cX11_record 23 = .ok (.aload_n 0, 1) := by decide +kernel
theorem dX11_record_24 : decode cX11_record 24 = .ok (.getfield 9, 3) := by decide +kernel
theorem dX11_record_27 : decode cX11_record 27 = .ok (.arraylength, 1) := by decide +kernel
theorem dX11_record_28 : decode cX11_record 28 = .ok (.if_icmp .ge 23, 3) := by decide +kernel
theorem dX11_record_31 : decode cX11_record 31 = .ok (.aload_n 0, 1) := by decide +kernel
theorem dX11_record_32 : decode cX11_record 32 = .ok (.getfield 9, 3) := by decide +kernel
theorem dX11_record_35 : decode cX11_record 35 = .ok (.aload_n 0, 1) := by decide +kernel
theorem dX11_record_36 : decode cX11_record 36 = .ok (.getfield 13, 3) := by decide +kernel
theorem dX11_record_39 : decode cX11_record 39 = .ok (.iload_n 3, 1) := by decide +kernel
theorem dX11_record_40 : decode cX11_record 40 = .ok (.iastore, 1) := by decide +kernel
theorem dX11_record_41 : decode cX11_record 41 = .ok (.aload_n 0, 1) := by decide +kernel
theorem dX11_record_42 : decode cX11_record 42 = .ok (.dup, 1) := by decide +kernel
theorem dX11_record_43 : decode cX11_record 43 = .ok (.getfield 13, 3) := by decide +kernel
theorem dX11_record_46 : decode cX11_record 46 = .ok (.iconst 1, 1) := by decide +kernel
theorem dX11_record_47 : decode cX11_record 47 = .ok (.iadd, 1) := by decide +kernel
theorem dX11_record_48 : decode cX11_record 48 = .ok (.putfield 13, 3) := by decide +kernel
theorem dX11_record_51 : decode cX11_record 51 = .ok (.iinc 2 (-8), 3) := by decide +kernel
theorem dX11_record_54 : decode cX11_record 54 = .ok (.goto (-51), 3) := by decide +kernel
theorem dX11_record_57 : decode cX11_record 57 = .ok (.return_, 1) := by decide +kernel
theorem dX11_end_0 : decode cX11_end 0 = .ok (.iload_n 1, 1) := by decide +kernel
theorem dX11_end_1 : decode cX11_end 1 = .ok (.ifCond .lt 11, 3) := by decide +kernel
theorem dX11_end_4 : decode cX11_end 4 = .ok (.iload_n 1, 1) := by decide +kernel
theorem dX11_end_5 : decode cX11_end 5 = .ok (.aload_n 0, 1) := by decide +kernel
theorem dX11_end_6 : decode cX11_end 6 = .ok (.getfield 13, 3) := by decide +kernel
theorem dX11_end_9 : decode cX11_end 9 = .ok (.if_icmp .le 5, 3) := by decide +kernel
theorem dX11_end_12 : decode cX11_end 12 = .ok (.iconst 0, 1) := by decide +kernel
theorem dX11_end_13 : decode cX11_end 13 = .ok (.ireturn, 1) := by decide +kernel
theorem dX11_end_14 : decode cX11_end 14 = .ok (.aload_n 0, 1) := by decide +kernel
theorem dX11_end_15 : decode cX11_end 15 = .ok (.iload_n 1, 1) := by decide +kernel
theorem dX11_end_16 : decode cX11_end 16 = .ok (.putfield 13, 3) := by decide +kernel
theorem dX11_end_19 : decode cX11_end 19 = .ok (.iconst 1, 1) := by decide +kernel
theorem dX11_end_20 : decode cX11_end 20 = .ok (.ireturn, 1) := by decide +kernel
theorem dX11_fault_0 : decode cX11_fault 0 = .ok (.aload_n 0, 1) := by decide +kernel
theorem dX11_fault_1 : decode cX11_fault 1 = .ok (.iload_n 1, 1) := by decide +kernel
theorem dX11_fault_2 : decode cX11_fault 2 = .ok (.invokevirtual 119, 3) := by decide +kernel
theorem dX11_fault_5 : decode cX11_fault 5 = .ok (.astore_n 2, 1) := by decide +kernel
theorem dX11_fault_6 : decode cX11_fault 6 = .ok (.aload_n 2, 1) := by decide +kernel
theorem dX11_fault_7 : decode cX11_fault 7 = .ok (.ifnonnull 6, 3) := by decide +kernel
theorem dX11_fault_10 : decode cX11_fault 10 = .ok (.bipush (-2), 2) := by decide +kernel
theorem dX11_fault_12 : decode cX11_fault 12 = .ok (.ireturn, 1) := by decide +kernel
theorem dX11_fault_13 : decode cX11_fault 13 = .ok (.aload_n 2, 1) := by decide +kernel
theorem dX11_fault_14 : decode cX11_fault 14 = .ok (.invokevirtual 123, 3) := by decide +kernel
theorem dX11_fault_17 : decode cX11_fault 17 = .ok (.ifCond .eq 7, 3) := by decide +kernel
theorem dX11_fault_20 : decode cX11_fault 20 = .ok (.iconst (-1), 1) := by decide +kernel
theorem dX11_fault_21 : decode cX11_fault 21 = .ok (.goto 7, 3) := by decide +kernel
theorem dX11_fault_24 : decode cX11_fault 24 = .ok (.aload_n 2, 1) := by decide +kernel
theorem dX11_fault_25 : decode cX11_fault 25 = .ok (.getfield 129, 3) := by decide +kernel
theorem dX11_fault_28 : decode cX11_fault 28 = .ok (.ireturn, 1) := by decide +kernel
theorem dX11_text_0 : decode cX11_text 0 = .ok (.aload_n 0, 1) := by decide +kernel
theorem dX11_text_1 : decode cX11_text 1 = .ok (.iload_n 1, 1) := by decide +kernel
theorem dX11_text_2 : decode cX11_text 2 = .ok (.invokevirtual 119, 3) := by decide +kernel
theorem dX11_text_5 : decode cX11_text 5 = .ok (.astore_n 2, 1) := by decide +kernel
theorem dX11_text_6 : decode cX11_text 6 = .ok (.aload_n 2, 1) := by decide +kernel
theorem dX11_text_7 : decode cX11_text 7 = .ok (.ifnull 10, 3) := by decide +kernel
theorem dX11_text_10 : decode cX11_text 10 = .ok (.aload_n 2, 1) := by decide +kernel
theorem dX11_text_11 : decode cX11_text 11 = .ok (.invokevirtual 123, 3) := by decide +kernel
theorem dX11_text_14 : decode cX11_text 14 = .ok (.ifCond .ne 5, 3) := by decide +kernel
theorem dX11_text_17 : decode cX11_text 17 = .ok (.iconst (-1), 1) := by decide +kernel
theorem dX11_text_18 : decode cX11_text 18 = .ok (.ireturn, 1) := by decide +kernel
theorem dX11_text_19 : decode cX11_text 19 = .ok (.iload_n 1, 1) := by decide +kernel
theorem dX11_text_20 : decode cX11_text 20 = .ok (.ifCond .ne 10, 3) := by decide +kernel
theorem dX11_text_23 : decode cX11_text 23 = .ok (.aload_n 0, 1) := by decide +kernel
theorem dX11_text_24 : decode cX11_text 24 = .ok (.invokevirtual 132, 3) := by decide +kernel
theorem dX11_text_27 : decode cX11_text 27 = .ok (.goto 19, 3) := by decide +kernel
theorem dX11_text_30 : decode cX11_text 30 = .ok (.iload_n 1, 1) := by decide +kernel
theorem dX11_text_31 : decode cX11_text 31 = .ok (.iconst 1, 1) := by decide +kernel
theorem dX11_text_32 : decode cX11_text 32 = .ok (.if_icmp .ne 10, 3) := by decide +kernel
theorem dX11_text_35 : decode cX11_text 35 = .ok (.aload_n 0, 1) := by decide +kernel
theorem dX11_text_36 : decode cX11_text 36 = .ok (.invokevirtual 136, 3) := by decide +kernel
theorem dX11_text_39 : decode cX11_text 39 = .ok (.goto 7, 3) := by decide +kernel
theorem dX11_text_42 : decode cX11_text 42 = .ok (.aload_n 0, 1) := by decide +kernel
theorem dX11_text_43 : decode cX11_text 43 = .ok (.invokevirtual 139, 3) := by decide +kernel
theorem dX11_text_46 : decode cX11_text 46 = .ok (.istore_n 3, 1) := by decide +kernel
theorem dX11_text_47 : decode cX11_text 47 = .ok (.iload_n 3, 1) := by decide +kernel
theorem dX11_text_48 : decode cX11_text 48 = .ok (.iconst (-1), 1) := by decide +kernel
theorem dX11_text_49 : decode cX11_text 49 = .ok (.if_icmp .eq 8, 3) := by decide +kernel
theorem dX11_text_52 : decode cX11_text 52 = .ok (.aload_n 0, 1) := by decide +kernel
theorem dX11_text_53 : decode cX11_text 53 = .ok (.iconst 0, 1) := by decide +kernel
theorem dX11_text_54 : decode cX11_text 54 = .ok (.putfield 13, 3) := by decide +kernel
theorem dX11_text_57 : decode cX11_text 57 = .ok (.iload_n 3, 1) := by decide +kernel
theorem dX11_text_58 : decode cX11_text 58 = .ok (.ireturn, 1) := by decide +kernel
theorem dX11_readerOf_0 : decode cX11_readerOf 0 = .ok (.aconst_null, 1) := by decide +kernel
theorem dX11_readerOf_1 : decode cX11_readerOf 1 = .ok (.astore_n 2, 1) := by decide +kernel
theorem dX11_readerOf_2 : decode cX11_readerOf 2 = .ok (.iload_n 1, 1) := by decide +kernel
theorem dX11_readerOf_3 : decode cX11_readerOf 3 = .ok (.tableswitch 49 0 2 #[25, 33, 41], 25) := by decide +kernel
theorem dX11_readerOf_28 : decode cX11_readerOf 28 = .ok (.aload_n 0, 1) := by decide +kernel
theorem dX11_readerOf_29 : decode cX11_readerOf 29 = .ok (.getfield 20, 3) := by decide +kernel
theorem dX11_readerOf_32 : decode cX11_readerOf 32 = .ok (.astore_n 2, 1) := by decide +kernel
theorem dX11_readerOf_33 : decode cX11_readerOf 33 = .ok (.goto 21, 3) := by decide +kernel
theorem dX11_readerOf_36 : decode cX11_readerOf 36 = .ok (.aload_n 0, 1) := by decide +kernel
theorem dX11_readerOf_37 : decode cX11_readerOf 37 = .ok (.getfield 27, 3) := by decide +kernel
theorem dX11_readerOf_40 : decode cX11_readerOf 40 = .ok (.astore_n 2, 1) := by decide +kernel
theorem dX11_readerOf_41 : decode cX11_readerOf 41 = .ok (.goto 13, 3) := by decide +kernel
theorem dX11_readerOf_44 : decode cX11_readerOf 44 = .ok (.aload_n 0, 1) := by decide +kernel
theorem dX11_readerOf_45 : decode cX11_readerOf 45 = .ok (.getfield 34, 3) := by decide +kernel
theorem dX11_readerOf_48 : decode cX11_readerOf 48 = .ok (.astore_n 2, 1) := by decide +kernel
theorem dX11_readerOf_49 : decode cX11_readerOf 49 = .ok (.goto 5, 3) := by decide +kernel
theorem dX11_readerOf_52 : decode cX11_readerOf 52 = .ok (.aconst_null, 1) := by decide +kernel
theorem dX11_readerOf_53 : decode cX11_readerOf 53 = .ok (.areturn, 1) := by decide +kernel
theorem dX11_readerOf_54 : decode cX11_readerOf 54 = .ok (.aload_n 2, 1) := by decide +kernel
theorem dX11_readerOf_55 : decode cX11_readerOf 55 = .ok (.aload_n 0, 1) := by decide +kernel
theorem dX11_readerOf_56 : decode cX11_readerOf 56 = .ok (.getfield 9, 3) := by decide +kernel
theorem dX11_readerOf_59 : decode cX11_readerOf 59 = .ok (.aload_n 0, 1) := by decide +kernel
theorem dX11_readerOf_60 : decode cX11_readerOf 60 = .ok (.getfield 13, 3) := by decide +kernel
theorem dX11_readerOf_63 : decode cX11_readerOf 63 = .ok (.invokevirtual 142, 3) := by decide +kernel
theorem dX11_readerOf_66 : decode cX11_readerOf 66 = .ok (.aload_n 2, 1) := by decide +kernel
theorem dX11_readerOf_67 : decode cX11_readerOf 67 = .ok (.areturn, 1) := by decide +kernel
theorem dX11_tellLantern_0 : decode cX11_tellLantern 0 = .ok (.aload_n 0, 1) := by decide +kernel
theorem dX11_tellLantern_1 : decode cX11_tellLantern 1 = .ok (.getfield 20, 3) := by decide +kernel
theorem dX11_tellLantern_4 : decode cX11_tellLantern 4 = .ok (.aload_n 0, 1) := by decide +kernel
theorem dX11_tellLantern_5 : decode cX11_tellLantern 5 = .ok (.getfield 75, 3) := by decide +kernel
theorem dX11_tellLantern_8 : decode cX11_tellLantern 8 = .ok (.invokevirtual 146, 3) := by decide +kernel
theorem dX11_tellLantern_11 : decode cX11_tellLantern 11 = .ok (.iconst 0, 1) := by decide +kernel
theorem dX11_tellLantern_12 : decode cX11_tellLantern 12 = .ok (.istore_n 1, 1) := by decide +kernel
theorem dX11_tellLantern_13 : decode cX11_tellLantern 13 = .ok (.iload_n 1, 1) := by decide +kernel
theorem dX11_tellLantern_14 : decode cX11_tellLantern 14 = .ok (.aload_n 0, 1) := by decide +kernel
theorem dX11_tellLantern_15 : decode cX11_tellLantern 15 = .ok (.getfield 75, 3) := by decide +kernel
theorem dX11_tellLantern_18 : decode cX11_tellLantern 18 = .ok (.getfield 150, 3) := by decide +kernel
theorem dX11_tellLantern_21 : decode cX11_tellLantern 21 = .ok (.if_icmp .ge 38, 3) := by decide +kernel
theorem dX11_tellLantern_24 : decode cX11_tellLantern 24 = .ok (.aload_n 0, 1) := by decide +kernel
theorem dX11_tellLantern_25 : decode cX11_tellLantern 25 = .ok (.getfield 75, 3) := by decide +kernel
theorem dX11_tellLantern_28 : decode cX11_tellLantern 28 = .ok (.getfield 153, 3) := by decide +kernel
theorem dX11_tellLantern_31 : decode cX11_tellLantern 31 = .ok (.iload_n 1, 1) := by decide +kernel
theorem dX11_tellLantern_32 : decode cX11_tellLantern 32 = .ok (.aaload, 1) := by decide +kernel
theorem dX11_tellLantern_33 : decode cX11_tellLantern 33 = .ok (.astore_n 2, 1) := by decide +kernel
theorem dX11_tellLantern_34 : decode cX11_tellLantern 34 = .ok (.aload_n 2, 1) := by decide +kernel
theorem dX11_tellLantern_35 : decode cX11_tellLantern 35 = .ok (.aload_n 2, 1) := by decide +kernel
theorem dX11_tellLantern_36 : decode cX11_tellLantern 36 = .ok (.getfield 157, 3) := by decide +kernel
theorem dX11_tellLantern_39 : decode cX11_tellLantern 39 = .ok (.aload_n 0, 1) := by decide +kernel
theorem dX11_tellLantern_40 : decode cX11_tellLantern 40 = .ok (.aload_n 2, 1) := by decide +kernel
theorem dX11_tellLantern_41 : decode cX11_tellLantern 41 = .ok (.invokevirtual 162, 3) := by decide +kernel
theorem dX11_tellLantern_44 : decode cX11_tellLantern 44 = .ok (.invokevirtual 166, 3) := by decide +kernel
theorem dX11_tellLantern_47 : decode cX11_tellLantern 47 = .ok (.invokestatic 169, 3) := by decide +kernel
theorem dX11_tellLantern_50 : decode cX11_tellLantern 50 = .ok (.putfield 157, 3) := by decide +kernel
theorem dX11_tellLantern_53 : decode cX11_tellLantern 53 = .ok (.iinc 1 1, 3) := by decide +kernel
theorem dX11_tellLantern_56 : decode cX11_tellLantern 56 = .ok (.goto (-43), 3) := by decide +kernel
theorem dX11_tellLantern_59 : decode cX11_tellLantern 59 = .ok (.aload_n 0, 1) := by decide +kernel
theorem dX11_tellLantern_60 : decode cX11_tellLantern 60 = .ok (.getfield 82, 3) := by decide +kernel
theorem dX11_tellLantern_63 : decode cX11_tellLantern 63 = .ok (.invokevirtual 173, 3) := by decide +kernel
theorem dX11_tellLantern_66 : decode cX11_tellLantern 66 = .ok (.aload_n 0, 1) := by decide +kernel
theorem dX11_tellLantern_67 : decode cX11_tellLantern 67 = .ok (.getfield 96, 3) := by decide +kernel
theorem dX11_tellLantern_70 : decode cX11_tellLantern 70 = .ok (.invokevirtual 176, 3) := by decide +kernel
theorem dX11_tellLantern_73 : decode cX11_tellLantern 73 = .ok (.aload_n 0, 1) := by decide +kernel
theorem dX11_tellLantern_74 : decode cX11_tellLantern 74 = .ok (.iconst 0, 1) := by decide +kernel
theorem dX11_tellLantern_75 : decode cX11_tellLantern 75 = .ok (.putfield 89, 3) := by decide +kernel
theorem dX11_tellLantern_78 : decode cX11_tellLantern 78 = .ok (.aload_n 0, 1) := by decide +kernel
theorem dX11_tellLantern_79 : decode cX11_tellLantern 79 = .ok (.getfield 75, 3) := by decide +kernel
theorem dX11_tellLantern_82 : decode cX11_tellLantern 82 = .ok (.getfield 150, 3) := by decide +kernel
theorem dX11_tellLantern_85 : decode cX11_tellLantern 85 = .ok (.ireturn, 1) := by decide +kernel
theorem dX11_tellLaw_0 : decode cX11_tellLaw 0 = .ok (.aload_n 0, 1) := by decide +kernel
theorem dX11_tellLaw_1 : decode cX11_tellLaw 1 = .ok (.getfield 44, 3) := by decide +kernel
theorem dX11_tellLaw_4 : decode cX11_tellLaw 4 = .ok (.aload_n 0, 1) := by decide +kernel
theorem dX11_tellLaw_5 : decode cX11_tellLaw 5 = .ok (.getfield 40, 3) := by decide +kernel
theorem dX11_tellLaw_8 : decode cX11_tellLaw 8 = .ok (.arraylength, 1) := by decide +kernel
theorem dX11_tellLaw_9 : decode cX11_tellLaw 9 = .ok (.if_icmp .lt 5, 3) := by decide +kernel
theorem dX11_tellLaw_12 : decode cX11_tellLaw 12 = .ok (.iconst (-1), 1) := by decide +kernel
theorem dX11_tellLaw_13 : decode cX11_tellLaw 13 = .ok (.ireturn, 1) := by decide +kernel
theorem dX11_tellLaw_14 : decode cX11_tellLaw 14 = .ok (.aload_n 0, 1) := by decide +kernel
theorem dX11_tellLaw_15 : decode cX11_tellLaw 15 = .ok (.getfield 40, 3) := by decide +kernel
theorem dX11_tellLaw_18 : decode cX11_tellLaw 18 = .ok (.aload_n 0, 1) := by decide +kernel
theorem dX11_tellLaw_19 : decode cX11_tellLaw 19 = .ok (.getfield 44, 3) := by decide +kernel
theorem dX11_tellLaw_22 : decode cX11_tellLaw 22 = .ok (.new 38, 3) := by decide +kernel
theorem dX11_tellLaw_25 : decode cX11_tellLaw 25 = .ok (.dup, 1) := by decide +kernel
theorem dX11_tellLaw_26 : decode cX11_tellLaw 26 = .ok (.aload_n 0, 1) := by decide +kernel
theorem dX11_tellLaw_27 : decode cX11_tellLaw 27 = .ok (.getfield 27, 3) := by decide +kernel
theorem dX11_tellLaw_30 : decode cX11_tellLaw 30 = .ok (.invokevirtual 177, 3) := by decide +kernel
theorem dX11_tellLaw_33 : decode cX11_tellLaw 33 = .ok (.invokespecial 181, 3) := by decide +kernel
theorem dX11_tellLaw_36 : decode cX11_tellLaw 36 = .ok (.aastore, 1) := by decide +kernel
theorem dX11_tellLaw_37 : decode cX11_tellLaw 37 = .ok (.aload_n 0, 1) := by decide +kernel
theorem dX11_tellLaw_38 : decode cX11_tellLaw 38 = .ok (.dup, 1) := by decide +kernel
theorem dX11_tellLaw_39 : decode cX11_tellLaw 39 = .ok (.getfield 44, 3) := by decide +kernel
theorem dX11_tellLaw_42 : decode cX11_tellLaw 42 = .ok (.iconst 1, 1) := by decide +kernel
theorem dX11_tellLaw_43 : decode cX11_tellLaw 43 = .ok (.iadd, 1) := by decide +kernel
theorem dX11_tellLaw_44 : decode cX11_tellLaw 44 = .ok (.putfield 44, 3) := by decide +kernel
theorem dX11_tellLaw_47 : decode cX11_tellLaw 47 = .ok (.aload_n 0, 1) := by decide +kernel
theorem dX11_tellLaw_48 : decode cX11_tellLaw 48 = .ok (.getfield 44, 3) := by decide +kernel
theorem dX11_tellLaw_51 : decode cX11_tellLaw 51 = .ok (.iconst 1, 1) := by decide +kernel
theorem dX11_tellLaw_52 : decode cX11_tellLaw 52 = .ok (.isub, 1) := by decide +kernel
theorem dX11_tellLaw_53 : decode cX11_tellLaw 53 = .ok (.ireturn, 1) := by decide +kernel
theorem dX11_tellStrip_0 : decode cX11_tellStrip 0 = .ok (.aload_n 0, 1) := by decide +kernel
theorem dX11_tellStrip_1 : decode cX11_tellStrip 1 = .ok (.getfield 56, 3) := by decide +kernel
theorem dX11_tellStrip_4 : decode cX11_tellStrip 4 = .ok (.aload_n 0, 1) := by decide +kernel
theorem dX11_tellStrip_5 : decode cX11_tellStrip 5 = .ok (.getfield 52, 3) := by decide +kernel
theorem dX11_tellStrip_8 : decode cX11_tellStrip 8 = .ok (.arraylength, 1) := by decide +kernel
theorem dX11_tellStrip_9 : decode cX11_tellStrip 9 = .ok (.if_icmp .lt 5, 3) := by decide +kernel
theorem dX11_tellStrip_12 : decode cX11_tellStrip 12 = .ok (.iconst (-1), 1) := by decide +kernel
theorem dX11_tellStrip_13 : decode cX11_tellStrip 13 = .ok (.ireturn, 1) := by decide +kernel
theorem dX11_tellStrip_14 : decode cX11_tellStrip 14 = .ok (.aload_n 0, 1) := by decide +kernel
theorem dX11_tellStrip_15 : decode cX11_tellStrip 15 = .ok (.getfield 52, 3) := by decide +kernel
theorem dX11_tellStrip_18 : decode cX11_tellStrip 18 = .ok (.aload_n 0, 1) := by decide +kernel
theorem dX11_tellStrip_19 : decode cX11_tellStrip 19 = .ok (.getfield 56, 3) := by decide +kernel
theorem dX11_tellStrip_22 : decode cX11_tellStrip 22 = .ok (.new 50, 3) := by decide +kernel
theorem dX11_tellStrip_25 : decode cX11_tellStrip 25 = .ok (.dup, 1) := by decide +kernel
theorem dX11_tellStrip_26 : decode cX11_tellStrip 26 = .ok (.aload_n 0, 1) := by decide +kernel
theorem dX11_tellStrip_27 : decode cX11_tellStrip 27 = .ok (.getfield 34, 3) := by decide +kernel
theorem dX11_tellStrip_30 : decode cX11_tellStrip 30 = .ok (.invokevirtual 182, 3) := by decide +kernel
theorem dX11_tellStrip_33 : decode cX11_tellStrip 33 = .ok (.invokespecial 59, 3) := by decide +kernel
theorem dX11_tellStrip_36 : decode cX11_tellStrip 36 = .ok (.aastore, 1) := by decide +kernel
theorem dX11_tellStrip_37 : decode cX11_tellStrip 37 = .ok (.aload_n 0, 1) := by decide +kernel
theorem dX11_tellStrip_38 : decode cX11_tellStrip 38 = .ok (.dup, 1) := by decide +kernel
theorem dX11_tellStrip_39 : decode cX11_tellStrip 39 = .ok (.getfield 56, 3) := by decide +kernel
theorem dX11_tellStrip_42 : decode cX11_tellStrip 42 = .ok (.iconst 1, 1) := by decide +kernel
theorem dX11_tellStrip_43 : decode cX11_tellStrip 43 = .ok (.iadd, 1) := by decide +kernel
theorem dX11_tellStrip_44 : decode cX11_tellStrip 44 = .ok (.putfield 56, 3) := by decide +kernel
theorem dX11_tellStrip_47 : decode cX11_tellStrip 47 = .ok (.aload_n 0, 1) := by decide +kernel
theorem dX11_tellStrip_48 : decode cX11_tellStrip 48 = .ok (.getfield 56, 3) := by decide +kernel
theorem dX11_tellStrip_51 : decode cX11_tellStrip 51 = .ok (.iconst 1, 1) := by decide +kernel
theorem dX11_tellStrip_52 : decode cX11_tellStrip 52 = .ok (.isub, 1) := by decide +kernel
theorem dX11_tellStrip_53 : decode cX11_tellStrip 53 = .ok (.ireturn, 1) := by decide +kernel
theorem dX11_rule_0 : decode cX11_rule 0 = .ok (.aload_n 0, 1) := by decide +kernel
theorem dX11_rule_1 : decode cX11_rule 1 = .ok (.invokevirtual 183, 3) := by decide +kernel
theorem dX11_rule_4 : decode cX11_rule 4 = .ok (.ifCond .ne 5, 3) := by decide +kernel
theorem dX11_rule_7 : decode cX11_rule 7 = .ok (.iconst (-1), 1) := by decide +kernel
theorem dX11_rule_8 : decode cX11_rule 8 = .ok (.ireturn, 1) := by decide +kernel
theorem dX11_rule_9 : decode cX11_rule 9 = .ok (.iload_n 1, 1) := by decide +kernel
theorem dX11_rule_10 : decode cX11_rule 10 = .ok (.tableswitch 50 0 2 #[26, 34, 42], 26) := by decide +kernel
theorem dX11_rule_36 : decode cX11_rule 36 = .ok (.aload_n 0, 1) := by decide +kernel
theorem dX11_rule_37 : decode cX11_rule 37 = .ok (.getfield 75, 3) := by decide +kernel
theorem dX11_rule_40 : decode cX11_rule 40 = .ok (.getfield 186, 3) := by decide +kernel
theorem dX11_rule_43 : decode cX11_rule 43 = .ok (.ireturn, 1) := by decide +kernel
theorem dX11_rule_44 : decode cX11_rule 44 = .ok (.aload_n 0, 1) := by decide +kernel
theorem dX11_rule_45 : decode cX11_rule 45 = .ok (.getfield 75, 3) := by decide +kernel
theorem dX11_rule_48 : decode cX11_rule 48 = .ok (.getfield 189, 3) := by decide +kernel
theorem dX11_rule_51 : decode cX11_rule 51 = .ok (.ireturn, 1) := by decide +kernel
theorem dX11_rule_52 : decode cX11_rule 52 = .ok (.aload_n 0, 1) := by decide +kernel
theorem dX11_rule_53 : decode cX11_rule 53 = .ok (.getfield 75, 3) := by decide +kernel
theorem dX11_rule_56 : decode cX11_rule 56 = .ok (.getfield 192, 3) := by decide +kernel
theorem dX11_rule_59 : decode cX11_rule 59 = .ok (.ireturn, 1) := by decide +kernel
theorem dX11_rule_60 : decode cX11_rule 60 = .ok (.iconst (-1), 1) := by decide +kernel
theorem dX11_rule_61 : decode cX11_rule 61 = .ok (.ireturn, 1) := by decide +kernel
theorem dX11_wheel_0 : decode cX11_wheel 0 = .ok (.aload_n 0, 1) := by decide +kernel
theorem dX11_wheel_1 : decode cX11_wheel 1 = .ok (.iload_n 1, 1) := by decide +kernel
theorem dX11_wheel_2 : decode cX11_wheel 2 = .ok (.invokevirtual 195, 3) := by decide +kernel
theorem dX11_wheel_5 : decode cX11_wheel 5 = .ok (.ifCond .ne 13, 3) := by decide +kernel
theorem dX11_wheel_8 : decode cX11_wheel 8 = .ok (.new 199, 3) := by decide +kernel
theorem dX11_wheel_11 : decode cX11_wheel 11 = .ok (.dup, 1) := by decide +kernel
theorem dX11_wheel_12 : decode cX11_wheel 12 = .ok (.ldc 201, 2) := by decide +kernel
theorem dX11_wheel_14 : decode cX11_wheel 14 = .ok (.invokespecial 203, 3) := by decide +kernel
theorem dX11_wheel_17 : decode cX11_wheel 17 = .ok (.athrow, 1) := by decide +kernel
theorem dX11_wheel_18 : decode cX11_wheel 18 = .ok (.aload_n 0, 1) := by decide +kernel
theorem dX11_wheel_19 : decode cX11_wheel 19 = .ok (.getfield 75, 3) := by decide +kernel
theorem dX11_wheel_22 : decode cX11_wheel 22 = .ok (.getfield 153, 3) := by decide +kernel
theorem dX11_wheel_25 : decode cX11_wheel 25 = .ok (.iload_n 1, 1) := by decide +kernel
theorem dX11_wheel_26 : decode cX11_wheel 26 = .ok (.aaload, 1) := by decide +kernel
theorem dX11_wheel_27 : decode cX11_wheel 27 = .ok (.astore_n 3, 1) := by decide +kernel
theorem dX11_wheel_28 : decode cX11_wheel 28 = .ok (.iload_n 2, 1) := by decide +kernel
theorem dX11_wheel_29 : decode cX11_wheel 29 = .ok (.tableswitch 82 0 5 #[39, 44, 57, 62, 67, 76], 39) := by decide +kernel
theorem dX11_wheel_68 : decode cX11_wheel 68 = .ok (.aload_n 3, 1) := by decide +kernel
theorem dX11_wheel_69 : decode cX11_wheel 69 = .ok (.getfield 206, 3) := by decide +kernel
theorem dX11_wheel_72 : decode cX11_wheel 72 = .ok (.ireturn, 1) := by decide +kernel
theorem dX11_wheel_73 : decode cX11_wheel 73 = .ok (.aload_n 3, 1) := by decide +kernel
theorem dX11_wheel_74 : decode cX11_wheel 74 = .ok (.getfield 209, 3) := by decide +kernel
theorem dX11_wheel_77 : decode cX11_wheel 77 = .ok (.ifCond .eq 7, 3) := by decide +kernel
theorem dX11_wheel_80 : decode cX11_wheel 80 = .ok (.iconst 1, 1) := by decide +kernel
theorem dX11_wheel_81 : decode cX11_wheel 81 = .ok (.goto 4, 3) := by decide +kernel
theorem dX11_wheel_84 : decode cX11_wheel 84 = .ok (.iconst 0, 1) := by decide +kernel
theorem dX11_wheel_85 : decode cX11_wheel 85 = .ok (.ireturn, 1) := by decide +kernel
theorem dX11_wheel_86 : decode cX11_wheel 86 = .ok (.aload_n 3, 1) := by decide +kernel
theorem dX11_wheel_87 : decode cX11_wheel 87 = .ok (.getfield 157, 3) := by decide +kernel
theorem dX11_wheel_90 : decode cX11_wheel 90 = .ok (.ireturn, 1) := by decide +kernel
theorem dX11_wheel_91 : decode cX11_wheel 91 = .ok (.aload_n 3, 1) := by decide +kernel
theorem dX11_wheel_92 : decode cX11_wheel 92 = .ok (.getfield 212, 3) := by decide +kernel
theorem dX11_wheel_95 : decode cX11_wheel 95 = .ok (.ireturn, 1) := by decide +kernel
theorem dX11_wheel_96 : decode cX11_wheel 96 = .ok (.aload_n 0, 1) := by decide +kernel
theorem dX11_wheel_97 : decode cX11_wheel 97 = .ok (.aload_n 3, 1) := by decide +kernel
theorem dX11_wheel_98 : decode cX11_wheel 98 = .ok (.invokevirtual 162, 3) := by decide +kernel
theorem dX11_wheel_101 : decode cX11_wheel 101 = .ok (.invokevirtual 166, 3) := by decide +kernel
theorem dX11_wheel_104 : decode cX11_wheel 104 = .ok (.ireturn, 1) := by decide +kernel
theorem dX11_wheel_105 : decode cX11_wheel 105 = .ok (.aload_n 0, 1) := by decide +kernel
theorem dX11_wheel_106 : decode cX11_wheel 106 = .ok (.aload_n 3, 1) := by decide +kernel
theorem dX11_wheel_107 : decode cX11_wheel 107 = .ok (.invokevirtual 215, 3) := by decide +kernel
theorem dX11_wheel_110 : decode cX11_wheel 110 = .ok (.ireturn, 1) := by decide +kernel
theorem dX11_wheel_111 : decode cX11_wheel 111 = .ok (.new 199, 3) := by decide +kernel
theorem dX11_wheel_114 : decode cX11_wheel 114 = .ok (.dup, 1) := by decide +kernel
theorem dX11_wheel_115 : decode cX11_wheel 115 = .ok (.ldc 219, 2) := by decide +kernel
theorem dX11_wheel_117 : decode cX11_wheel 117 = .ok (.invokespecial 203, 3) := by decide +kernel
theorem dX11_wheel_120 : decode cX11_wheel 120 = .ok (.athrow, 1) := by decide +kernel
theorem dX11_picture_0 : decode cX11_picture 0 = .ok (.aload_n 0, 1) := by decide +kernel
theorem dX11_picture_1 : decode cX11_picture 1 = .ok (.iload_n 1, 1) := by decide +kernel
theorem dX11_picture_2 : decode cX11_picture 2 = .ok (.invokevirtual 221, 3) := by decide +kernel
theorem dX11_picture_5 : decode cX11_picture 5 = .ok (.ifCond .ne 5, 3) := by decide +kernel
theorem dX11_picture_8 : decode cX11_picture 8 = .ok (.iconst (-1), 1) := by decide +kernel
theorem dX11_picture_9 : decode cX11_picture 9 = .ok (.ireturn, 1) := by decide +kernel
theorem dX11_picture_10 : decode cX11_picture 10 = .ok (.aload_n 0, 1) := by decide +kernel
theorem dX11_picture_11 : decode cX11_picture 11 = .ok (.getfield 52, 3) := by decide +kernel
theorem dX11_picture_14 : decode cX11_picture 14 = .ok (.iload_n 1, 1) := by decide +kernel
theorem dX11_picture_15 : decode cX11_picture 15 = .ok (.aaload, 1) := by decide +kernel
theorem dX11_picture_16 : decode cX11_picture 16 = .ok (.invokevirtual 166, 3) := by decide +kernel
theorem dX11_picture_19 : decode cX11_picture 19 = .ok (.istore_n 3, 1) := by decide +kernel
theorem dX11_picture_20 : decode cX11_picture 20 = .ok (.iload_n 2, 1) := by decide +kernel
theorem dX11_picture_21 : decode cX11_picture 21 = .ok (.iconst (-1), 1) := by decide +kernel
theorem dX11_picture_22 : decode cX11_picture 22 = .ok (.if_icmp .ne 5, 3) := by decide +kernel
theorem dX11_picture_25 : decode cX11_picture 25 = .ok (.iload_n 3, 1) := by decide +kernel
theorem dX11_picture_26 : decode cX11_picture 26 = .ok (.ireturn, 1) := by decide +kernel
theorem dX11_picture_27 : decode cX11_picture 27 = .ok (.iload_n 2, 1) := by decide +kernel
theorem dX11_picture_28 : decode cX11_picture 28 = .ok (.ifCond .lt 8, 3) := by decide +kernel
theorem dX11_picture_31 : decode cX11_picture 31 = .ok (.iload_n 2, 1) := by decide +kernel
theorem dX11_picture_32 : decode cX11_picture 32 = .ok (.iload_n 3, 1) := by decide +kernel
theorem dX11_picture_33 : decode cX11_picture 33 = .ok (.if_icmp .lt 7, 3) := by decide +kernel
theorem dX11_picture_36 : decode cX11_picture 36 = .ok (.iconst (-1), 1) := by decide +kernel
theorem dX11_picture_37 : decode cX11_picture 37 = .ok (.goto 13, 3) := by decide +kernel
theorem dX11_picture_40 : decode cX11_picture 40 = .ok (.aload_n 0, 1) := by decide +kernel
theorem dX11_picture_41 : decode cX11_picture 41 = .ok (.getfield 52, 3) := by decide +kernel
theorem dX11_picture_44 : decode cX11_picture 44 = .ok (.iload_n 1, 1) := by decide +kernel
theorem dX11_picture_45 : decode cX11_picture 45 = .ok (.aaload, 1) := by decide +kernel
theorem dX11_picture_46 : decode cX11_picture 46 = .ok (.iload_n 2, 1) := by decide +kernel
theorem dX11_picture_47 : decode cX11_picture 47 = .ok (.invokevirtual 224, 3) := by decide +kernel
theorem dX11_picture_50 : decode cX11_picture 50 = .ok (.ireturn, 1) := by decide +kernel
theorem dX11_law_0 : decode cX11_law 0 = .ok (.iload_n 1, 1) := by decide +kernel
theorem dX11_law_1 : decode cX11_law 1 = .ok (.iconst (-1), 1) := by decide +kernel
theorem dX11_law_2 : decode cX11_law 2 = .ok (.if_icmp .lt 11, 3) := by decide +kernel
theorem dX11_law_5 : decode cX11_law 5 = .ok (.iload_n 1, 1) := by decide +kernel
theorem dX11_law_6 : decode cX11_law 6 = .ok (.aload_n 0, 1) := by decide +kernel
theorem dX11_law_7 : decode cX11_law 7 = .ok (.getfield 44, 3) := by decide +kernel
theorem dX11_law_10 : decode cX11_law 10 = .ok (.if_icmp .lt 5, 3) := by decide +kernel
theorem dX11_law_13 : decode cX11_law 13 = .ok (.iconst 0, 1) := by decide +kernel
theorem dX11_law_14 : decode cX11_law 14 = .ok (.ireturn, 1) := by decide +kernel
theorem dX11_law_15 : decode cX11_law 15 = .ok (.aload_n 0, 1) := by decide +kernel
theorem dX11_law_16 : decode cX11_law 16 = .ok (.iload_n 1, 1) := by decide +kernel
theorem dX11_law_17 : decode cX11_law 17 = .ok (.putfield 47, 3) := by decide +kernel
theorem dX11_law_20 : decode cX11_law 20 = .ok (.iconst 1, 1) := by decide +kernel
theorem dX11_law_21 : decode cX11_law 21 = .ok (.ireturn, 1) := by decide +kernel
theorem dX11_touch_0 : decode cX11_touch 0 = .ok (.iload_n 1, 1) := by decide +kernel
theorem dX11_touch_1 : decode cX11_touch 1 = .ok (.ifCond .lt 17, 3) := by decide +kernel
theorem dX11_touch_4 : decode cX11_touch 4 = .ok (.iload_n 1, 1) := by decide +kernel
theorem dX11_touch_5 : decode cX11_touch 5 = .ok (.bipush 9, 2) := by decide +kernel
theorem dX11_touch_7 : decode cX11_touch 7 = .ok (.if_icmp .gt 11, 3) := by decide +kernel
theorem dX11_touch_10 : decode cX11_touch 10 = .ok (.iload_n 1, 1) := by decide +kernel
theorem dX11_touch_11 : decode cX11_touch 11 = .ok (.aload_n 0, 1) := by decide +kernel
theorem dX11_touch_12 : decode cX11_touch 12 = .ok (.getfield 66, 3) := by decide +kernel
theorem dX11_touch_15 : decode cX11_touch 15 = .ok (.if_icmp .ne 5, 3) := by decide +kernel
theorem dX11_touch_18 : decode cX11_touch 18 = .ok (.iconst 0, 1) := by decide +kernel
theorem dX11_touch_19 : decode cX11_touch 19 = .ok (.ireturn, 1) := by decide +kernel
theorem dX11_touch_20 : decode cX11_touch 20 = .ok (.aload_n 0, 1) := by decide +kernel
theorem dX11_touch_21 : decode cX11_touch 21 = .ok (.iload_n 1, 1) := by decide +kernel
theorem dX11_touch_22 : decode cX11_touch 22 = .ok (.putfield 66, 3) := by decide +kernel
theorem dX11_touch_25 : decode cX11_touch 25 = .ok (.iconst 1, 1) := by decide +kernel
theorem dX11_touch_26 : decode cX11_touch 26 = .ok (.ireturn, 1) := by decide +kernel
theorem dX11_isLit_0 : decode cX11_isLit 0 = .ok (.aload_n 0, 1) := by decide +kernel
theorem dX11_isLit_1 : decode cX11_isLit 1 = .ok (.getfield 75, 3) := by decide +kernel
theorem dX11_isLit_4 : decode cX11_isLit 4 = .ok (.getfield 150, 3) := by decide +kernel
theorem dX11_isLit_7 : decode cX11_isLit 7 = .ok (.ifCond .le 7, 3) := by decide +kernel
theorem dX11_isLit_10 : decode cX11_isLit 10 = .ok (.iconst 1, 1) := by decide +kernel
theorem dX11_isLit_11 : decode cX11_isLit 11 = .ok (.goto 4, 3) := by decide +kernel
theorem dX11_isLit_14 : decode cX11_isLit 14 = .ok (.iconst 0, 1) := by decide +kernel
theorem dX11_isLit_15 : decode cX11_isLit 15 = .ok (.ireturn, 1) := by decide +kernel
theorem dX11_isWheel_0 : decode cX11_isWheel 0 = .ok (.iload_n 1, 1) := by decide +kernel
theorem dX11_isWheel_1 : decode cX11_isWheel 1 = .ok (.ifCond .lt 18, 3) := by decide +kernel
theorem dX11_isWheel_4 : decode cX11_isWheel 4 = .ok (.iload_n 1, 1) := by decide +kernel
theorem dX11_isWheel_5 : decode cX11_isWheel 5 = .ok (.aload_n 0, 1) := by decide +kernel
theorem dX11_isWheel_6 : decode cX11_isWheel 6 = .ok (.getfield 75, 3) := by decide +kernel
theorem dX11_isWheel_9 : decode cX11_isWheel 9 = .ok (.getfield 150, 3) := by decide +kernel
theorem dX11_isWheel_12 : decode cX11_isWheel 12 = .ok (.if_icmp .ge 7, 3) := by decide +kernel
theorem dX11_isWheel_15 : decode cX11_isWheel 15 = .ok (.iconst 1, 1) := by decide +kernel
theorem dX11_isWheel_16 : decode cX11_isWheel 16 = .ok (.goto 4, 3) := by decide +kernel
theorem dX11_isWheel_19 : decode cX11_isWheel 19 = .ok (.iconst 0, 1) := by decide +kernel
theorem dX11_isWheel_20 : decode cX11_isWheel 20 = .ok (.ireturn, 1) := by decide +kernel
theorem dX11_isStrip_0 : decode cX11_isStrip 0 = .ok (.iload_n 1, 1) := by decide +kernel
theorem dX11_isStrip_1 : decode cX11_isStrip 1 = .ok (.ifCond .lt 24, 3) := by decide +kernel
theorem dX11_isStrip_4 : decode cX11_isStrip 4 = .ok (.iload_n 1, 1) := by decide +kernel
theorem dX11_isStrip_5 : decode cX11_isStrip 5 = .ok (.aload_n 0, 1) := by decide +kernel
theorem dX11_isStrip_6 : decode cX11_isStrip 6 = .ok (.getfield 56, 3) := by decide +kernel
theorem dX11_isStrip_9 : decode cX11_isStrip 9 = .ok (.if_icmp .ge 16, 3) := by decide +kernel
theorem dX11_isStrip_12 : decode cX11_isStrip 12 = .ok (.aload_n 0, 1) := by decide +kernel
theorem dX11_isStrip_13 : decode cX11_isStrip 13 = .ok (.getfield 52, 3) := by decide +kernel
theorem dX11_isStrip_16 : decode cX11_isStrip 16 = .ok (.iload_n 1, 1) := by decide +kernel
theorem dX11_isStrip_17 : decode cX11_isStrip 17 = .ok (.aaload, 1) := by decide +kernel
theorem dX11_isStrip_18 : decode cX11_isStrip 18 = .ok (.ifnull 7, 3) := by decide +kernel
theorem dX11_isStrip_21 : decode cX11_isStrip 21 = .ok (.iconst 1, 1) := by decide +kernel
theorem dX11_isStrip_22 : decode cX11_isStrip 22 = .ok (.goto 4, 3) := by decide +kernel
theorem dX11_isStrip_25 : decode cX11_isStrip 25 = .ok (.iconst 0, 1) := by decide +kernel
theorem dX11_isStrip_26 : decode cX11_isStrip 26 = .ok (.ireturn, 1) := by decide +kernel
theorem dX11_stripOf_0 : decode cX11_stripOf 0 = .ok (.aload_n 0, 1) := by decide +kernel
theorem dX11_stripOf_1 : decode cX11_stripOf 1 = .ok (.aload_n 1, 1) := by decide +kernel
theorem dX11_stripOf_2 : decode cX11_stripOf 2 = .ok (.getfield 212, 3) := by decide +kernel
theorem dX11_stripOf_5 : decode cX11_stripOf 5 = .ok (.invokevirtual 221, 3) := by decide +kernel
theorem dX11_stripOf_8 : decode cX11_stripOf 8 = .ok (.ifCond .eq 15, 3) := by decide +kernel
theorem dX11_stripOf_11 : decode cX11_stripOf 11 = .ok (.aload_n 0, 1) := by decide +kernel
theorem dX11_stripOf_12 : decode cX11_stripOf 12 = .ok (.getfield 52, 3) := by decide +kernel
theorem dX11_stripOf_15 : decode cX11_stripOf 15 = .ok (.aload_n 1, 1) := by decide +kernel
theorem dX11_stripOf_16 : decode cX11_stripOf 16 = .ok (.getfield 212, 3) := by decide +kernel
theorem dX11_stripOf_19 : decode cX11_stripOf 19 = .ok (.aaload, 1) := by decide +kernel
theorem dX11_stripOf_20 : decode cX11_stripOf 20 = .ok (.goto 7, 3) := by decide +kernel
theorem dX11_stripOf_23 : decode cX11_stripOf 23 = .ok (.aload_n 0, 1) := by decide +kernel
theorem dX11_stripOf_24 : decode cX11_stripOf 24 = .ok (.getfield 62, 3) := by decide +kernel
theorem dX11_stripOf_27 : decode cX11_stripOf 27 = .ok (.areturn, 1) := by decide +kernel
theorem dX11_shown_0 : decode cX11_shown 0 = .ok (.aload_n 0, 1) := by decide +kernel
theorem dX11_shown_1 : decode cX11_shown 1 = .ok (.aload_n 1, 1) := by decide +kernel
theorem dX11_shown_2 : decode cX11_shown 2 = .ok (.invokevirtual 162, 3) := by decide +kernel
theorem dX11_shown_5 : decode cX11_shown 5 = .ok (.aload_n 1, 1) := by decide +kernel
theorem dX11_shown_6 : decode cX11_shown 6 = .ok (.getfield 157, 3) := by decide +kernel
theorem dX11_shown_9 : decode cX11_shown 9 = .ok (.invokevirtual 224, 3) := by decide +kernel
theorem dX11_shown_12 : decode cX11_shown 12 = .ok (.ireturn, 1) := by decide +kernel
theorem dX11_lawNow_0 : decode cX11_lawNow 0 = .ok (.aload_n 0, 1) := by decide +kernel
theorem dX11_lawNow_1 : decode cX11_lawNow 1 = .ok (.getfield 47, 3) := by decide +kernel
theorem dX11_lawNow_4 : decode cX11_lawNow 4 = .ok (.ifCond .lt 26, 3) := by decide +kernel
theorem dX11_lawNow_7 : decode cX11_lawNow 7 = .ok (.aload_n 0, 1) := by decide +kernel
theorem dX11_lawNow_8 : decode cX11_lawNow 8 = .ok (.getfield 47, 3) := by decide +kernel
theorem dX11_lawNow_11 : decode cX11_lawNow 11 = .ok (.aload_n 0, 1) := by decide +kernel
theorem dX11_lawNow_12 : decode cX11_lawNow 12 = .ok (.getfield 44, 3) := by decide +kernel
theorem dX11_lawNow_15 : decode cX11_lawNow 15 = .ok (.if_icmp .ge 15, 3) := by decide +kernel
theorem dX11_lawNow_18 : decode cX11_lawNow 18 = .ok (.aload_n 0, 1) := by decide +kernel
theorem dX11_lawNow_19 : decode cX11_lawNow 19 = .ok (.getfield 40, 3) := by decide +kernel
theorem dX11_lawNow_22 : decode cX11_lawNow 22 = .ok (.aload_n 0, 1) := by decide +kernel
theorem dX11_lawNow_23 : decode cX11_lawNow 23 = .ok (.getfield 47, 3) := by decide +kernel
theorem dX11_lawNow_26 : decode cX11_lawNow 26 = .ok (.aaload, 1) := by decide +kernel
theorem dX11_lawNow_27 : decode cX11_lawNow 27 = .ok (.goto 4, 3) := by decide +kernel
theorem dX11_lawNow_30 : decode cX11_lawNow 30 = .ok (.aconst_null, 1) := by decide +kernel
theorem dX11_lawNow_31 : decode cX11_lawNow 31 = .ok (.areturn, 1) := by decide +kernel
theorem dX11_ticks_0 : decode cX11_ticks 0 = .ok (.aload_n 0, 1) := by decide +kernel
theorem dX11_ticks_1 : decode cX11_ticks 1 = .ok (.invokevirtual 183, 3) := by decide +kernel
theorem dX11_ticks_4 : decode cX11_ticks 4 = .ok (.ifCond .ne 9, 3) := by decide +kernel
theorem dX11_ticks_7 : decode cX11_ticks 7 = .ok (.aload_n 0, 1) := by decide +kernel
theorem dX11_ticks_8 : decode cX11_ticks 8 = .ok (.iconst 0, 1) := by decide +kernel
theorem dX11_ticks_9 : decode cX11_ticks 9 = .ok (.invokevirtual 227, 3) := by decide +kernel
theorem dX11_ticks_12 : decode cX11_ticks 12 = .ok (.ireturn, 1) := by decide +kernel
theorem dX11_ticks_13 : decode cX11_ticks 13 = .ok (.iload_n 1, 1) := by decide +kernel
theorem dX11_ticks_14 : decode cX11_ticks 14 = .ok (.iconst 1, 1) := by decide +kernel
theorem dX11_ticks_15 : decode cX11_ticks 15 = .ok (.if_icmp .lt 9, 3) := by decide +kernel
theorem dX11_ticks_18 : decode cX11_ticks 18 = .ok (.iload_n 1, 1) := by decide +kernel
theorem dX11_ticks_19 : decode cX11_ticks 19 = .ok (.bipush 60, 2) := by decide +kernel
theorem dX11_ticks_21 : decode cX11_ticks 21 = .ok (.if_icmp .le 9, 3) := by decide +kernel
theorem dX11_ticks_24 : decode cX11_ticks 24 = .ok (.aload_n 0, 1) := by decide +kernel
theorem dX11_ticks_25 : decode cX11_ticks 25 = .ok (.iconst 1, 1) := by decide +kernel
theorem dX11_ticks_26 : decode cX11_ticks 26 = .ok (.invokevirtual 227, 3) := by decide +kernel
theorem dX11_ticks_29 : decode cX11_ticks 29 = .ok (.ireturn, 1) := by decide +kernel
theorem dX11_ticks_30 : decode cX11_ticks 30 = .ok (.aload_n 0, 1) := by decide +kernel
theorem dX11_ticks_31 : decode cX11_ticks 31 = .ok (.getfield 75, 3) := by decide +kernel
theorem dX11_ticks_34 : decode cX11_ticks 34 = .ok (.getfield 230, 3) := by decide +kernel
theorem dX11_ticks_37 : decode cX11_ticks 37 = .ok (.iload_n 1, 1) := by decide +kernel
theorem dX11_ticks_38 : decode cX11_ticks 38 = .ok (.iadd, 1) := by decide +kernel
theorem dX11_ticks_39 : decode cX11_ticks 39 = .ok (.sipush 9999, 3) := by decide +kernel
theorem dX11_ticks_42 : decode cX11_ticks 42 = .ok (.if_icmp .le 9, 3) := by decide +kernel
theorem dX11_ticks_45 : decode cX11_ticks 45 = .ok (.aload_n 0, 1) := by decide +kernel
theorem dX11_ticks_46 : decode cX11_ticks 46 = .ok (.iconst 4, 1) := by decide +kernel
theorem dX11_ticks_47 : decode cX11_ticks 47 = .ok (.invokevirtual 227, 3) := by decide +kernel
theorem dX11_ticks_50 : decode cX11_ticks 50 = .ok (.ireturn, 1) := by decide +kernel
theorem dX11_ticks_51 : decode cX11_ticks 51 = .ok (.iconst 0, 1) := by decide +kernel
theorem dX11_ticks_52 : decode cX11_ticks 52 = .ok (.istore_n 2, 1) := by decide +kernel
theorem dX11_ticks_53 : decode cX11_ticks 53 = .ok (.iload_n 2, 1) := by decide +kernel
theorem dX11_ticks_54 : decode cX11_ticks 54 = .ok (.iload_n 1, 1) := by decide +kernel
theorem dX11_ticks_55 : decode cX11_ticks 55 = .ok (.if_icmp .ge 24, 3) := by decide +kernel
theorem dX11_ticks_58 : decode cX11_ticks 58 = .ok (.aload_n 0, 1) := by decide +kernel
theorem dX11_ticks_59 : decode cX11_ticks 59 = .ok (.getfield 82, 3) := by decide +kernel
theorem dX11_ticks_62 : decode cX11_ticks 62 = .ok (.aload_n 0, 1) := by decide +kernel
theorem dX11_ticks_63 : decode cX11_ticks 63 = .ok (.getfield 75, 3) := by decide +kernel
theorem dX11_ticks_66 : decode cX11_ticks 66 = .ok (.invokevirtual 233, 3) := by decide +kernel
theorem dX11_ticks_69 : decode cX11_ticks 69 = .ok (.aload_n 0, 1) := by decide +kernel
theorem dX11_ticks_70 : decode cX11_ticks 70 = .ok (.invokevirtual 236, 3) := by decide +kernel
theorem dX11_ticks_73 : decode cX11_ticks 73 = .ok (.iinc 2 1, 3) := by decide +kernel
theorem dX11_ticks_76 : decode cX11_ticks 76 = .ok (.goto (-23), 3) := by decide +kernel
theorem dX11_ticks_79 : decode cX11_ticks 79 = .ok (.aload_n 0, 1) := by decide +kernel
theorem dX11_ticks_80 : decode cX11_ticks 80 = .ok (.getfield 75, 3) := by decide +kernel
theorem dX11_ticks_83 : decode cX11_ticks 83 = .ok (.getfield 230, 3) := by decide +kernel
theorem dX11_ticks_86 : decode cX11_ticks 86 = .ok (.ireturn, 1) := by decide +kernel
theorem dX11_flash_0 : decode cX11_flash 0 = .ok (.aload_n 0, 1) := by decide +kernel
theorem dX11_flash_1 : decode cX11_flash 1 = .ok (.invokevirtual 183, 3) := by decide +kernel
theorem dX11_flash_4 : decode cX11_flash 4 = .ok (.ifCond .ne 9, 3) := by decide +kernel
theorem dX11_flash_7 : decode cX11_flash 7 = .ok (.aload_n 0, 1) := by decide +kernel
theorem dX11_flash_8 : decode cX11_flash 8 = .ok (.iconst 0, 1) := by decide +kernel
theorem dX11_flash_9 : decode cX11_flash 9 = .ok (.invokevirtual 227, 3) := by decide +kernel
theorem dX11_flash_12 : decode cX11_flash 12 = .ok (.ireturn, 1) := by decide +kernel
theorem dX11_flash_13 : decode cX11_flash 13 = .ok (.iload_n 1, 1) := by decide +kernel
theorem dX11_flash_14 : decode cX11_flash 14 = .ok (.iconst 1, 1) := by decide +kernel
theorem dX11_flash_15 : decode cX11_flash 15 = .ok (.if_icmp .lt 9, 3) := by decide +kernel
theorem dX11_flash_18 : decode cX11_flash 18 = .ok (.iload_n 1, 1) := by decide +kernel
theorem dX11_flash_19 : decode cX11_flash 19 = .ok (.bipush 60, 2) := by decide +kernel
theorem dX11_flash_21 : decode cX11_flash 21 = .ok (.if_icmp .le 9, 3) := by decide +kernel
theorem dX11_flash_24 : decode cX11_flash 24 = .ok (.aload_n 0, 1) := by decide +kernel
theorem dX11_flash_25 : decode cX11_flash 25 = .ok (.iconst 1, 1) := by decide +kernel
theorem dX11_flash_26 : decode cX11_flash 26 = .ok (.invokevirtual 227, 3) := by decide +kernel
theorem dX11_flash_29 : decode cX11_flash 29 = .ok (.ireturn, 1) := by decide +kernel
theorem dX11_flash_30 : decode cX11_flash 30 = .ok (.iload_n 1, 1) := by decide +kernel
theorem dX11_flash_31 : decode cX11_flash 31 = .ok (.aload_n 0, 1) := by decide +kernel
theorem dX11_flash_32 : decode cX11_flash 32 = .ok (.getfield 75, 3) := by decide +kernel
theorem dX11_flash_35 : decode cX11_flash 35 = .ok (.getfield 186, 3) := by decide +kernel
theorem dX11_flash_38 : decode cX11_flash 38 = .ok (.if_icmp .ne 9, 3) := by decide +kernel
theorem dX11_flash_41 : decode cX11_flash 41 = .ok (.aload_n 0, 1) := by decide +kernel
theorem dX11_flash_42 : decode cX11_flash 42 = .ok (.iconst 2, 1) := by decide +kernel
theorem dX11_flash_43 : decode cX11_flash 43 = .ok (.invokevirtual 227, 3) := by decide +kernel
theorem dX11_flash_46 : decode cX11_flash 46 = .ok (.ireturn, 1) := by decide +kernel
theorem dX11_flash_47 : decode cX11_flash 47 = .ok (.aload_n 0, 1) := by decide +kernel
theorem dX11_flash_48 : decode cX11_flash 48 = .ok (.getfield 82, 3) := by decide +kernel
theorem dX11_flash_51 : decode cX11_flash 51 = .ok (.aload_n 0, 1) := by decide +kernel
theorem dX11_flash_52 : decode cX11_flash 52 = .ok (.getfield 75, 3) := by decide +kernel
theorem dX11_flash_55 : decode cX11_flash 55 = .ok (.invokevirtual 233, 3) := by decide +kernel
theorem dX11_flash_58 : decode cX11_flash 58 = .ok (.aload_n 0, 1) := by decide +kernel
theorem dX11_flash_59 : decode cX11_flash 59 = .ok (.getfield 75, 3) := by decide +kernel
theorem dX11_flash_62 : decode cX11_flash 62 = .ok (.getfield 186, 3) := by decide +kernel
theorem dX11_flash_65 : decode cX11_flash 65 = .ok (.istore_n 2, 1) := by decide +kernel
theorem dX11_flash_66 : decode cX11_flash 66 = .ok (.aload_n 0, 1) := by decide +kernel
theorem dX11_flash_67 : decode cX11_flash 67 = .ok (.getfield 75, 3) := by decide +kernel
theorem dX11_flash_70 : decode cX11_flash 70 = .ok (.iload_n 1, 1) := by decide +kernel
theorem dX11_flash_71 : decode cX11_flash 71 = .ok (.putfield 186, 3) := by decide +kernel
theorem dX11_flash_74 : decode cX11_flash 74 = .ok (.iload_n 2, 1) := by decide +kernel
theorem dX11_flash_75 : decode cX11_flash 75 = .ok (.ireturn, 1) := by decide +kernel
theorem dX11_speed_0 : decode cX11_speed 0 = .ok (.aload_n 0, 1) := by decide +kernel
theorem dX11_speed_1 : decode cX11_speed 1 = .ok (.iload_n 1, 1) := by decide +kernel
theorem dX11_speed_2 : decode cX11_speed 2 = .ok (.invokevirtual 195, 3) := by decide +kernel
theorem dX11_speed_5 : decode cX11_speed 5 = .ok (.ifCond .ne 9, 3) := by decide +kernel
theorem dX11_speed_8 : decode cX11_speed 8 = .ok (.aload_n 0, 1) := by decide +kernel
theorem dX11_speed_9 : decode cX11_speed 9 = .ok (.iconst 0, 1) := by decide +kernel
theorem dX11_speed_10 : decode cX11_speed 10 = .ok (.invokevirtual 227, 3) := by decide +kernel
theorem dX11_speed_13 : decode cX11_speed 13 = .ok (.ireturn, 1) := by decide +kernel
theorem dX11_speed_14 : decode cX11_speed 14 = .ok (.iload_n 2, 1) := by decide +kernel
theorem dX11_speed_15 : decode cX11_speed 15 = .ok (.ifCond .lt 9, 3) := by decide +kernel
theorem dX11_speed_18 : decode cX11_speed 18 = .ok (.iload_n 2, 1) := by decide +kernel
theorem dX11_speed_19 : decode cX11_speed 19 = .ok (.bipush 9, 2) := by decide +kernel
theorem dX11_speed_21 : decode cX11_speed 21 = .ok (.if_icmp .le 9, 3) := by decide +kernel
theorem dX11_speed_24 : decode cX11_speed 24 = .ok (.aload_n 0, 1) := by decide +kernel
theorem dX11_speed_25 : decode cX11_speed 25 = .ok (.iconst 1, 1) := by decide +kernel
theorem dX11_speed_26 : decode cX11_speed 26 = .ok (.invokevirtual 227, 3) := by decide +kernel
theorem dX11_speed_29 : decode cX11_speed 29 = .ok (.ireturn, 1) := by decide +kernel
theorem dX11_speed_30 : decode cX11_speed 30 = .ok (.aload_n 0, 1) := by decide +kernel
theorem dX11_speed_31 : decode cX11_speed 31 = .ok (.getfield 75, 3) := by decide +kernel
theorem dX11_speed_34 : decode cX11_speed 34 = .ok (.getfield 153, 3) := by decide +kernel
theorem dX11_speed_37 : decode cX11_speed 37 = .ok (.iload_n 1, 1) := by decide +kernel
theorem dX11_speed_38 : decode cX11_speed 38 = .ok (.aaload, 1) := by decide +kernel
theorem dX11_speed_39 : decode cX11_speed 39 = .ok (.astore_n 3, 1) := by decide +kernel
theorem dX11_speed_40 : decode cX11_speed 40 = .ok (.iload_n 2, 1) := by decide +kernel
theorem dX11_speed_41 : decode cX11_speed 41 = .ok (.aload_n 3, 1) := by decide +kernel
theorem dX11_speed_42 : decode cX11_speed 42 = .ok (.getfield 206, 3) := by decide +kernel
theorem dX11_speed_45 : decode cX11_speed 45 = .ok (.if_icmp .ne 9, 3) := by decide +kernel
theorem dX11_speed_48 : decode cX11_speed 48 = .ok (.aload_n 0, 1) := by decide +kernel
theorem dX11_speed_49 : decode cX11_speed 49 = .ok (.iconst 2, 1) := by decide +kernel
theorem dX11_speed_50 : decode cX11_speed 50 = .ok (.invokevirtual 227, 3) := by decide +kernel
theorem dX11_speed_53 : decode cX11_speed 53 = .ok (.ireturn, 1) := by decide +kernel
theorem dX11_speed_54 : decode cX11_speed 54 = .ok (.aload_n 0, 1) := by decide +kernel
theorem dX11_speed_55 : decode cX11_speed 55 = .ok (.getfield 75, 3) := by decide +kernel
theorem dX11_speed_58 : decode cX11_speed 58 = .ok (.getfield 192, 3) := by decide +kernel
theorem dX11_speed_61 : decode cX11_speed 61 = .ok (.iconst 1, 1) := by decide +kernel
theorem dX11_speed_62 : decode cX11_speed 62 = .ok (.if_icmp .ge 9, 3) := by decide +kernel
theorem dX11_speed_65 : decode cX11_speed 65 = .ok (.aload_n 0, 1) := by decide +kernel
theorem dX11_speed_66 : decode cX11_speed 66 = .ok (.iconst 3, 1) := by decide +kernel
theorem dX11_speed_67 : decode cX11_speed 67 = .ok (.invokevirtual 227, 3) := by decide +kernel
theorem dX11_speed_70 : decode cX11_speed 70 = .ok (.ireturn, 1) := by decide +kernel
theorem dX11_speed_71 : decode cX11_speed 71 = .ok (.aload_n 0, 1) := by decide +kernel
theorem dX11_speed_72 : decode cX11_speed 72 = .ok (.getfield 82, 3) := by decide +kernel
theorem dX11_speed_75 : decode cX11_speed 75 = .ok (.aload_n 0, 1) := by decide +kernel
theorem dX11_speed_76 : decode cX11_speed 76 = .ok (.getfield 75, 3) := by decide +kernel
theorem dX11_speed_79 : decode cX11_speed 79 = .ok (.invokevirtual 233, 3) := by decide +kernel
theorem dX11_speed_82 : decode cX11_speed 82 = .ok (.aload_n 3, 1) := by decide +kernel
theorem dX11_speed_83 : decode cX11_speed 83 = .ok (.getfield 206, 3) := by decide +kernel
theorem dX11_speed_86 : decode cX11_speed 86 = .ok (.istore 4, 2) := by decide +kernel
theorem dX11_speed_88 : decode cX11_speed 88 = .ok (.aload_n 3, 1) := by decide +kernel
theorem dX11_speed_89 : decode cX11_speed 89 = .ok (.iload_n 2, 1) := by decide +kernel
theorem dX11_speed_90 : decode cX11_speed 90 = .ok (.putfield 206, 3) := by decide +kernel
theorem dX11_speed_93 : decode cX11_speed 93 = .ok (.aload_n 0, 1) := by decide +kernel
theorem dX11_speed_94 : decode cX11_speed 94 = .ok (.getfield 75, 3) := by decide +kernel
theorem dX11_speed_97 : decode cX11_speed 97 = .ok (.dup, 1) := by decide +kernel
theorem dX11_speed_98 : decode cX11_speed 98 = .ok (.getfield 192, 3) := by decide +kernel
theorem dX11_speed_101 : decode cX11_speed 101 = .ok (.iconst 1, 1) := by decide +kernel
theorem dX11_speed_102 : decode cX11_speed 102 = .ok (.isub, 1) := by decide +kernel
theorem dX11_speed_103 : decode cX11_speed 103 = .ok (.putfield 192, 3) := by decide +kernel
theorem dX11_speed_106 : decode cX11_speed 106 = .ok (.iload 4, 2) := by decide +kernel
theorem dX11_speed_108 : decode cX11_speed 108 = .ok (.ireturn, 1) := by decide +kernel
theorem dX11_about_0 : decode cX11_about 0 = .ok (.aload_n 0, 1) := by decide +kernel
theorem dX11_about_1 : decode cX11_about 1 = .ok (.iload_n 1, 1) := by decide +kernel
theorem dX11_about_2 : decode cX11_about 2 = .ok (.invokevirtual 195, 3) := by decide +kernel
theorem dX11_about_5 : decode cX11_about 5 = .ok (.ifCond .ne 9, 3) := by decide +kernel
theorem dX11_about_8 : decode cX11_about 8 = .ok (.aload_n 0, 1) := by decide +kernel
theorem dX11_about_9 : decode cX11_about 9 = .ok (.iconst 0, 1) := by decide +kernel
theorem dX11_about_10 : decode cX11_about 10 = .ok (.invokevirtual 227, 3) := by decide +kernel
theorem dX11_about_13 : decode cX11_about 13 = .ok (.ireturn, 1) := by decide +kernel
theorem dX11_about_14 : decode cX11_about 14 = .ok (.aload_n 0, 1) := by decide +kernel
theorem dX11_about_15 : decode cX11_about 15 = .ok (.getfield 82, 3) := by decide +kernel
theorem dX11_about_18 : decode cX11_about 18 = .ok (.aload_n 0, 1) := by decide +kernel
theorem dX11_about_19 : decode cX11_about 19 = .ok (.getfield 75, 3) := by decide +kernel
theorem dX11_about_22 : decode cX11_about 22 = .ok (.invokevirtual 233, 3) := by decide +kernel
theorem dX11_about_25 : decode cX11_about 25 = .ok (.aload_n 0, 1) := by decide +kernel
theorem dX11_about_26 : decode cX11_about 26 = .ok (.getfield 75, 3) := by decide +kernel
theorem dX11_about_29 : decode cX11_about 29 = .ok (.getfield 153, 3) := by decide +kernel
theorem dX11_about_32 : decode cX11_about 32 = .ok (.iload_n 1, 1) := by decide +kernel
theorem dX11_about_33 : decode cX11_about 33 = .ok (.aaload, 1) := by decide +kernel
theorem dX11_about_34 : decode cX11_about 34 = .ok (.astore_n 2, 1) := by decide +kernel
theorem dX11_about_35 : decode cX11_about 35 = .ok (.aload_n 2, 1) := by decide +kernel
theorem dX11_about_36 : decode cX11_about 36 = .ok (.aload_n 2, 1) := by decide +kernel
theorem dX11_about_37 : decode cX11_about 37 = .ok (.getfield 209, 3) := by decide +kernel
theorem dX11_about_40 : decode cX11_about 40 = .ok (.ifCond .ne 7, 3) := by decide +kernel
theorem dX11_about_43 : decode cX11_about 43 = .ok (.iconst 1, 1) := by decide +kernel
theorem dX11_about_44 : decode cX11_about 44 = .ok (.goto 4, 3) := by decide +kernel
theorem dX11_about_47 : decode cX11_about 47 = .ok (.iconst 0, 1) := by decide +kernel
theorem dX11_about_48 : decode cX11_about 48 = .ok (.putfield 209, 3) := by decide +kernel
theorem dX11_about_51 : decode cX11_about 51 = .ok (.aload_n 2, 1) := by decide +kernel
theorem dX11_about_52 : decode cX11_about 52 = .ok (.getfield 209, 3) := by decide +kernel
theorem dX11_about_55 : decode cX11_about 55 = .ok (.ifCond .eq 7, 3) := by decide +kernel
theorem dX11_about_58 : decode cX11_about 58 = .ok (.iconst 1, 1) := by decide +kernel
theorem dX11_about_59 : decode cX11_about 59 = .ok (.goto 4, 3) := by decide +kernel
theorem dX11_about_62 : decode cX11_about 62 = .ok (.iconst 0, 1) := by decide +kernel
theorem dX11_about_63 : decode cX11_about 63 = .ok (.ireturn, 1) := by decide +kernel
theorem dX11_push_0 : decode cX11_push 0 = .ok (.aload_n 0, 1) := by decide +kernel
theorem dX11_push_1 : decode cX11_push 1 = .ok (.iload_n 1, 1) := by decide +kernel
theorem dX11_push_2 : decode cX11_push 2 = .ok (.invokevirtual 195, 3) := by decide +kernel
theorem dX11_push_5 : decode cX11_push 5 = .ok (.ifCond .ne 9, 3) := by decide +kernel
theorem dX11_push_8 : decode cX11_push 8 = .ok (.aload_n 0, 1) := by decide +kernel
theorem dX11_push_9 : decode cX11_push 9 = .ok (.iconst 0, 1) := by decide +kernel
theorem dX11_push_10 : decode cX11_push 10 = .ok (.invokevirtual 227, 3) := by decide +kernel
theorem dX11_push_13 : decode cX11_push 13 = .ok (.ireturn, 1) := by decide +kernel
theorem dX11_push_14 : decode cX11_push 14 = .ok (.iload_n 2, 1) := by decide +kernel
theorem dX11_push_15 : decode cX11_push 15 = .ok (.iconst 1, 1) := by decide +kernel
theorem dX11_push_16 : decode cX11_push 16 = .ok (.if_icmp .lt 9, 3) := by decide +kernel
theorem dX11_push_19 : decode cX11_push 19 = .ok (.iload_n 2, 1) := by decide +kernel
theorem dX11_push_20 : decode cX11_push 20 = .ok (.bipush 9, 2) := by decide +kernel
theorem dX11_push_22 : decode cX11_push 22 = .ok (.if_icmp .le 9, 3) := by decide +kernel
theorem dX11_push_25 : decode cX11_push 25 = .ok (.aload_n 0, 1) := by decide +kernel
theorem dX11_push_26 : decode cX11_push 26 = .ok (.iconst 1, 1) := by decide +kernel
theorem dX11_push_27 : decode cX11_push 27 = .ok (.invokevirtual 227, 3) := by decide +kernel
theorem dX11_push_30 : decode cX11_push 30 = .ok (.ireturn, 1) := by decide +kernel
theorem dX11_push_31 : decode cX11_push 31 = .ok (.aload_n 0, 1) := by decide +kernel
theorem dX11_push_32 : decode cX11_push 32 = .ok (.getfield 75, 3) := by decide +kernel
theorem dX11_push_35 : decode cX11_push 35 = .ok (.getfield 192, 3) := by decide +kernel
theorem dX11_push_38 : decode cX11_push 38 = .ok (.iconst 1, 1) := by decide +kernel
theorem dX11_push_39 : decode cX11_push 39 = .ok (.if_icmp .ge 9, 3) := by decide +kernel
theorem dX11_push_42 : decode cX11_push 42 = .ok (.aload_n 0, 1) := by decide +kernel
theorem dX11_push_43 : decode cX11_push 43 = .ok (.iconst 3, 1) := by decide +kernel
theorem dX11_push_44 : decode cX11_push 44 = .ok (.invokevirtual 227, 3) := by decide +kernel
theorem dX11_push_47 : decode cX11_push 47 = .ok (.ireturn, 1) := by decide +kernel
theorem dX11_push_48 : decode cX11_push 48 = .ok (.aload_n 0, 1) := by decide +kernel
theorem dX11_push_49 : decode cX11_push 49 = .ok (.getfield 82, 3) := by decide +kernel
theorem dX11_push_52 : decode cX11_push 52 = .ok (.aload_n 0, 1) := by decide +kernel
theorem dX11_push_53 : decode cX11_push 53 = .ok (.getfield 75, 3) := by decide +kernel
theorem dX11_push_56 : decode cX11_push 56 = .ok (.invokevirtual 233, 3) := by decide +kernel
theorem dX11_push_59 : decode cX11_push 59 = .ok (.aload_n 0, 1) := by decide +kernel
theorem dX11_push_60 : decode cX11_push 60 = .ok (.getfield 75, 3) := by decide +kernel
theorem dX11_push_63 : decode cX11_push 63 = .ok (.dup, 1) := by decide +kernel
theorem dX11_push_64 : decode cX11_push 64 = .ok (.getfield 192, 3) := by decide +kernel
theorem dX11_push_67 : decode cX11_push 67 = .ok (.iconst 1, 1) := by decide +kernel
theorem dX11_push_68 : decode cX11_push 68 = .ok (.isub, 1) := by decide +kernel
theorem dX11_push_69 : decode cX11_push 69 = .ok (.putfield 192, 3) := by decide +kernel
theorem dX11_push_72 : decode cX11_push 72 = .ok (.aload_n 0, 1) := by decide +kernel
theorem dX11_push_73 : decode cX11_push 73 = .ok (.aload_n 0, 1) := by decide +kernel
theorem dX11_push_74 : decode cX11_push 74 = .ok (.getfield 75, 3) := by decide +kernel
theorem dX11_push_77 : decode cX11_push 77 = .ok (.getfield 153, 3) := by decide +kernel
theorem dX11_push_80 : decode cX11_push 80 = .ok (.iload_n 1, 1) := by decide +kernel
theorem dX11_push_81 : decode cX11_push 81 = .ok (.aaload, 1) := by decide +kernel
theorem dX11_push_82 : decode cX11_push 82 = .ok (.iload_n 2, 1) := by decide +kernel
theorem dX11_push_83 : decode cX11_push 83 = .ok (.invokevirtual 239, 3) := by decide +kernel
theorem dX11_push_86 : decode cX11_push 86 = .ok (.aload_n 0, 1) := by decide +kernel
theorem dX11_push_87 : decode cX11_push 87 = .ok (.getfield 75, 3) := by decide +kernel
theorem dX11_push_90 : decode cX11_push 90 = .ok (.getfield 153, 3) := by decide +kernel
theorem dX11_push_93 : decode cX11_push 93 = .ok (.iload_n 1, 1) := by decide +kernel
theorem dX11_push_94 : decode cX11_push 94 = .ok (.aaload, 1) := by decide +kernel
theorem dX11_push_95 : decode cX11_push 95 = .ok (.getfield 157, 3) := by decide +kernel
theorem dX11_push_98 : decode cX11_push 98 = .ok (.ireturn, 1) := by decide +kernel
theorem dX11_puts_0 : decode cX11_puts 0 = .ok (.aload_n 0, 1) := by decide +kernel
theorem dX11_puts_1 : decode cX11_puts 1 = .ok (.iload_n 1, 1) := by decide +kernel
theorem dX11_puts_2 : decode cX11_puts 2 = .ok (.invokevirtual 195, 3) := by decide +kernel
theorem dX11_puts_5 : decode cX11_puts 5 = .ok (.ifCond .eq 11, 3) := by decide +kernel
theorem dX11_puts_8 : decode cX11_puts 8 = .ok (.aload_n 0, 1) := by decide +kernel
theorem dX11_puts_9 : decode cX11_puts 9 = .ok (.iload_n 2, 1) := by decide +kernel
theorem dX11_puts_10 : decode cX11_puts 10 = .ok (.invokevirtual 221, 3) := by decide +kernel
theorem dX11_puts_13 : decode cX11_puts 13 = .ok (.ifCond .ne 9, 3) := by decide +kernel
theorem dX11_puts_16 : decode cX11_puts 16 = .ok (.aload_n 0, 1) := by decide +kernel
theorem dX11_puts_17 : decode cX11_puts 17 = .ok (.iconst 0, 1) := by decide +kernel
theorem dX11_puts_18 : decode cX11_puts 18 = .ok (.invokevirtual 227, 3) := by decide +kernel
theorem dX11_puts_21 : decode cX11_puts 21 = .ok (.ireturn, 1) := by decide +kernel
theorem dX11_puts_22 : decode cX11_puts 22 = .ok (.aload_n 0, 1) := by decide +kernel
theorem dX11_puts_23 : decode cX11_puts 23 = .ok (.getfield 75, 3) := by decide +kernel
theorem dX11_puts_26 : decode cX11_puts 26 = .ok (.getfield 153, 3) := by decide +kernel
theorem dX11_puts_29 : decode cX11_puts 29 = .ok (.iload_n 1, 1) := by decide +kernel
theorem dX11_puts_30 : decode cX11_puts 30 = .ok (.aaload, 1) := by decide +kernel
theorem dX11_puts_31 : decode cX11_puts 31 = .ok (.astore_n 3, 1) := by decide +kernel
theorem dX11_puts_32 : decode cX11_puts 32 = .ok (.iload_n 2, 1) := by decide +kernel
theorem dX11_puts_33 : decode cX11_puts 33 = .ok (.aload_n 3, 1) := by decide +kernel
theorem dX11_puts_34 : decode cX11_puts 34 = .ok (.getfield 212, 3) := by decide +kernel
theorem dX11_puts_37 : decode cX11_puts 37 = .ok (.if_icmp .ne 9, 3) := by decide +kernel
theorem dX11_puts_40 : decode cX11_puts 40 = .ok (.aload_n 0, 1) := by decide +kernel
theorem dX11_puts_41 : decode cX11_puts 41 = .ok (.iconst 2, 1) := by decide +kernel
theorem dX11_puts_42 : decode cX11_puts 42 = .ok (.invokevirtual 227, 3) := by decide +kernel
theorem dX11_puts_45 : decode cX11_puts 45 = .ok (.ireturn, 1) := by decide +kernel
theorem dX11_puts_46 : decode cX11_puts 46 = .ok (.aload_n 0, 1) := by decide +kernel
theorem dX11_puts_47 : decode cX11_puts 47 = .ok (.getfield 75, 3) := by decide +kernel
theorem dX11_puts_50 : decode cX11_puts 50 = .ok (.getfield 192, 3) := by decide +kernel
theorem dX11_puts_53 : decode cX11_puts 53 = .ok (.iconst 2, 1) := by decide +kernel
theorem dX11_puts_54 : decode cX11_puts 54 = .ok (.if_icmp .ge 9, 3) := by decide +kernel
theorem dX11_puts_57 : decode cX11_puts 57 = .ok (.aload_n 0, 1) := by decide +kernel
theorem dX11_puts_58 : decode cX11_puts 58 = .ok (.iconst 3, 1) := by decide +kernel
theorem dX11_puts_59 : decode cX11_puts 59 = .ok (.invokevirtual 227, 3) := by decide +kernel
theorem dX11_puts_62 : decode cX11_puts 62 = .ok (.ireturn, 1) := by decide +kernel
theorem dX11_puts_63 : decode cX11_puts 63 = .ok (.aload_n 0, 1) := by decide +kernel
theorem dX11_puts_64 : decode cX11_puts 64 = .ok (.getfield 82, 3) := by decide +kernel
theorem dX11_puts_67 : decode cX11_puts 67 = .ok (.aload_n 0, 1) := by decide +kernel
theorem dX11_puts_68 : decode cX11_puts 68 = .ok (.getfield 75, 3) := by decide +kernel
theorem dX11_puts_71 : decode cX11_puts 71 = .ok (.invokevirtual 233, 3) := by decide +kernel
theorem dX11_puts_74 : decode cX11_puts 74 = .ok (.aload_n 0, 1) := by decide +kernel
theorem dX11_puts_75 : decode cX11_puts 75 = .ok (.getfield 75, 3) := by decide +kernel
theorem dX11_puts_78 : decode cX11_puts 78 = .ok (.dup, 1) := by decide +kernel
theorem dX11_puts_79 : decode cX11_puts 79 = .ok (.getfield 192, 3) := by decide +kernel
theorem dX11_puts_82 : decode cX11_puts 82 = .ok (.iconst 2, 1) := by decide +kernel
theorem dX11_puts_83 : decode cX11_puts 83 = .ok (.isub, 1) := by decide +kernel
theorem dX11_puts_84 : decode cX11_puts 84 = .ok (.putfield 192, 3) := by decide +kernel
theorem dX11_puts_87 : decode cX11_puts 87 = .ok (.aload_n 3, 1) := by decide +kernel
theorem dX11_puts_88 : decode cX11_puts 88 = .ok (.iload_n 2, 1) := by decide +kernel
theorem dX11_puts_89 : decode cX11_puts 89 = .ok (.putfield 212, 3) := by decide +kernel
theorem dX11_puts_92 : decode cX11_puts 92 = .ok (.aload_n 0, 1) := by decide +kernel
theorem dX11_puts_93 : decode cX11_puts 93 = .ok (.getfield 52, 3) := by decide +kernel
theorem dX11_puts_96 : decode cX11_puts 96 = .ok (.iload_n 2, 1) := by decide +kernel
theorem dX11_puts_97 : decode cX11_puts 97 = .ok (.aaload, 1) := by decide +kernel
theorem dX11_puts_98 : decode cX11_puts 98 = .ok (.invokevirtual 166, 3) := by decide +kernel
theorem dX11_puts_101 : decode cX11_puts 101 = .ok (.istore 4, 2) := by decide +kernel
theorem dX11_puts_103 : decode cX11_puts 103 = .ok (.aload_n 3, 1) := by decide +kernel
theorem dX11_puts_104 : decode cX11_puts 104 = .ok (.aload_n 3, 1) := by decide +kernel
theorem dX11_puts_105 : decode cX11_puts 105 = .ok (.getfield 157, 3) := by decide +kernel
theorem dX11_puts_108 : decode cX11_puts 108 = .ok (.iload 4, 2) := by decide +kernel
theorem dX11_puts_110 : decode cX11_puts 110 = .ok (.invokestatic 169, 3) := by decide +kernel
theorem dX11_puts_113 : decode cX11_puts 113 = .ok (.putfield 157, 3) := by decide +kernel
theorem dX11_puts_116 : decode cX11_puts 116 = .ok (.iload 4, 2) := by decide +kernel
theorem dX11_puts_118 : decode cX11_puts 118 = .ok (.ireturn, 1) := by decide +kernel
theorem dX11_oil_0 : decode cX11_oil 0 = .ok (.aload_n 0, 1) := by decide +kernel
theorem dX11_oil_1 : decode cX11_oil 1 = .ok (.invokevirtual 183, 3) := by decide +kernel
theorem dX11_oil_4 : decode cX11_oil 4 = .ok (.ifCond .ne 9, 3) := by decide +kernel
theorem dX11_oil_7 : decode cX11_oil 7 = .ok (.aload_n 0, 1) := by decide +kernel
theorem dX11_oil_8 : decode cX11_oil 8 = .ok (.iconst 0, 1) := by decide +kernel
theorem dX11_oil_9 : decode cX11_oil 9 = .ok (.invokevirtual 227, 3) := by decide +kernel
theorem dX11_oil_12 : decode cX11_oil 12 = .ok (.ireturn, 1) := by decide +kernel
theorem dX11_oil_13 : decode cX11_oil 13 = .ok (.iload_n 1, 1) := by decide +kernel
theorem dX11_oil_14 : decode cX11_oil 14 = .ok (.iconst 1, 1) := by decide +kernel
theorem dX11_oil_15 : decode cX11_oil 15 = .ok (.if_icmp .lt 9, 3) := by decide +kernel
theorem dX11_oil_18 : decode cX11_oil 18 = .ok (.iload_n 1, 1) := by decide +kernel
theorem dX11_oil_19 : decode cX11_oil 19 = .ok (.bipush 30, 2) := by decide +kernel
theorem dX11_oil_21 : decode cX11_oil 21 = .ok (.if_icmp .le 9, 3) := by decide +kernel
theorem dX11_oil_24 : decode cX11_oil 24 = .ok (.aload_n 0, 1) := by decide +kernel
theorem dX11_oil_25 : decode cX11_oil 25 = .ok (.iconst 1, 1) := by decide +kernel
theorem dX11_oil_26 : decode cX11_oil 26 = .ok (.invokevirtual 227, 3) := by decide +kernel
theorem dX11_oil_29 : decode cX11_oil 29 = .ok (.ireturn, 1) := by decide +kernel
theorem dX11_oil_30 : decode cX11_oil 30 = .ok (.iload_n 1, 1) := by decide +kernel
theorem dX11_oil_31 : decode cX11_oil 31 = .ok (.iconst 1, 1) := by decide +kernel
theorem dX11_oil_32 : decode cX11_oil 32 = .ok (.iadd, 1) := by decide +kernel
theorem dX11_oil_33 : decode cX11_oil 33 = .ok (.iconst 2, 1) := by decide +kernel
theorem dX11_oil_34 : decode cX11_oil 34 = .ok (.idiv, 1) := by decide +kernel
theorem dX11_oil_35 : decode cX11_oil 35 = .ok (.istore_n 2, 1) := by decide +kernel
theorem dX11_oil_36 : decode cX11_oil 36 = .ok (.aload_n 0, 1) := by decide +kernel
theorem dX11_oil_37 : decode cX11_oil 37 = .ok (.getfield 75, 3) := by decide +kernel
theorem dX11_oil_40 : decode cX11_oil 40 = .ok (.getfield 192, 3) := by decide +kernel
theorem dX11_oil_43 : decode cX11_oil 43 = .ok (.iload_n 2, 1) := by decide +kernel
theorem dX11_oil_44 : decode cX11_oil 44 = .ok (.if_icmp .lt 18, 3) := by decide +kernel
theorem dX11_oil_47 : decode cX11_oil 47 = .ok (.aload_n 0, 1) := by decide +kernel
theorem dX11_oil_48 : decode cX11_oil 48 = .ok (.getfield 75, 3) := by decide +kernel
theorem dX11_oil_51 : decode cX11_oil 51 = .ok (.getfield 189, 3) := by decide +kernel
theorem dX11_oil_54 : decode cX11_oil 54 = .ok (.iload_n 1, 1) := by decide +kernel
theorem dX11_oil_55 : decode cX11_oil 55 = .ok (.iadd, 1) := by decide +kernel
theorem dX11_oil_56 : decode cX11_oil 56 = .ok (.sipush 999, 3) := by decide +kernel
theorem dX11_oil_59 : decode cX11_oil 59 = .ok (.if_icmp .le 9, 3) := by decide +kernel
theorem dX11_oil_62 : decode cX11_oil 62 = .ok (.aload_n 0, 1) := by decide +kernel
theorem dX11_oil_63 : decode cX11_oil 63 = .ok (.iconst 3, 1) := by decide +kernel
theorem dX11_oil_64 : decode cX11_oil 64 = .ok (.invokevirtual 227, 3) := by decide +kernel
theorem dX11_oil_67 : decode cX11_oil 67 = .ok (.ireturn, 1) := by decide +kernel
theorem dX11_oil_68 : decode cX11_oil 68 = .ok (.aload_n 0, 1) := by decide +kernel
theorem dX11_oil_69 : decode cX11_oil 69 = .ok (.getfield 82, 3) := by decide +kernel
theorem dX11_oil_72 : decode cX11_oil 72 = .ok (.aload_n 0, 1) := by decide +kernel
theorem dX11_oil_73 : decode cX11_oil 73 = .ok (.getfield 75, 3) := by decide +kernel
theorem dX11_oil_76 : decode cX11_oil 76 = .ok (.invokevirtual 233, 3) := by decide +kernel
theorem dX11_oil_79 : decode cX11_oil 79 = .ok (.aload_n 0, 1) := by decide +kernel
theorem dX11_oil_80 : decode cX11_oil 80 = .ok (.getfield 75, 3) := by decide +kernel
theorem dX11_oil_83 : decode cX11_oil 83 = .ok (.dup, 1) := by decide +kernel
theorem dX11_oil_84 : decode cX11_oil 84 = .ok (.getfield 192, 3) := by decide +kernel
theorem dX11_oil_87 : decode cX11_oil 87 = .ok (.iload_n 2, 1) := by decide +kernel
theorem dX11_oil_88 : decode cX11_oil 88 = .ok (.isub, 1) := by decide +kernel
theorem dX11_oil_89 : decode cX11_oil 89 = .ok (.putfield 192, 3) := by decide +kernel
theorem dX11_oil_92 : decode cX11_oil 92 = .ok (.aload_n 0, 1) := by decide +kernel
theorem dX11_oil_93 : decode cX11_oil 93 = .ok (.getfield 75, 3) := by decide +kernel
theorem dX11_oil_96 : decode cX11_oil 96 = .ok (.dup, 1) := by decide +kernel
theorem dX11_oil_97 : decode cX11_oil 97 = .ok (.getfield 189, 3) := by decide +kernel
theorem dX11_oil_100 : decode cX11_oil 100 = .ok (.iload_n 1, 1) := by decide +kernel
theorem dX11_oil_101 : decode cX11_oil 101 = .ok (.iadd, 1) := by decide +kernel
theorem dX11_oil_102 : decode cX11_oil 102 = .ok (.putfield 189, 3) := by decide +kernel
theorem dX11_oil_105 : decode cX11_oil 105 = .ok (.aload_n 0, 1) := by decide +kernel
theorem dX11_oil_106 : decode cX11_oil 106 = .ok (.getfield 75, 3) := by decide +kernel
theorem dX11_oil_109 : decode cX11_oil 109 = .ok (.getfield 189, 3) := by decide +kernel
theorem dX11_oil_112 : decode cX11_oil 112 = .ok (.ireturn, 1) := by decide +kernel
theorem dX11_give_0 : decode cX11_give 0 = .ok (.aload_n 0, 1) := by decide +kernel
theorem dX11_give_1 : decode cX11_give 1 = .ok (.invokevirtual 183, 3) := by decide +kernel
theorem dX11_give_4 : decode cX11_give 4 = .ok (.ifCond .ne 9, 3) := by decide +kernel
theorem dX11_give_7 : decode cX11_give 7 = .ok (.aload_n 0, 1) := by decide +kernel
theorem dX11_give_8 : decode cX11_give 8 = .ok (.iconst 0, 1) := by decide +kernel
theorem dX11_give_9 : decode cX11_give 9 = .ok (.invokevirtual 227, 3) := by decide +kernel
theorem dX11_give_12 : decode cX11_give 12 = .ok (.ireturn, 1) := by decide +kernel
theorem dX11_give_13 : decode cX11_give 13 = .ok (.iload_n 1, 1) := by decide +kernel
theorem dX11_give_14 : decode cX11_give 14 = .ok (.iconst 1, 1) := by decide +kernel
theorem dX11_give_15 : decode cX11_give 15 = .ok (.if_icmp .lt 9, 3) := by decide +kernel
theorem dX11_give_18 : decode cX11_give 18 = .ok (.iload_n 1, 1) := by decide +kernel
theorem dX11_give_19 : decode cX11_give 19 = .ok (.bipush 50, 2) := by decide +kernel
theorem dX11_give_21 : decode cX11_give 21 = .ok (.if_icmp .le 9, 3) := by decide +kernel
theorem dX11_give_24 : decode cX11_give 24 = .ok (.aload_n 0, 1) := by decide +kernel
theorem dX11_give_25 : decode cX11_give 25 = .ok (.iconst 1, 1) := by decide +kernel
theorem dX11_give_26 : decode cX11_give 26 = .ok (.invokevirtual 227, 3) := by decide +kernel
theorem dX11_give_29 : decode cX11_give 29 = .ok (.ireturn, 1) := by decide +kernel
theorem dX11_give_30 : decode cX11_give 30 = .ok (.aload_n 0, 1) := by decide +kernel
theorem dX11_give_31 : decode cX11_give 31 = .ok (.getfield 75, 3) := by decide +kernel
theorem dX11_give_34 : decode cX11_give 34 = .ok (.getfield 192, 3) := by decide +kernel
theorem dX11_give_37 : decode cX11_give 37 = .ok (.iload_n 1, 1) := by decide +kernel
theorem dX11_give_38 : decode cX11_give 38 = .ok (.iadd, 1) := by decide +kernel
theorem dX11_give_39 : decode cX11_give 39 = .ok (.sipush 999, 3) := by decide +kernel
theorem dX11_give_42 : decode cX11_give 42 = .ok (.if_icmp .le 9, 3) := by decide +kernel
theorem dX11_give_45 : decode cX11_give 45 = .ok (.aload_n 0, 1) := by decide +kernel
theorem dX11_give_46 : decode cX11_give 46 = .ok (.iconst 3, 1) := by decide +kernel
theorem dX11_give_47 : decode cX11_give 47 = .ok (.invokevirtual 227, 3) := by decide +kernel
theorem dX11_give_50 : decode cX11_give 50 = .ok (.ireturn, 1) := by decide +kernel
theorem dX11_give_51 : decode cX11_give 51 = .ok (.aload_n 0, 1) := by decide +kernel
theorem dX11_give_52 : decode cX11_give 52 = .ok (.getfield 82, 3) := by decide +kernel
theorem dX11_give_55 : decode cX11_give 55 = .ok (.aload_n 0, 1) := by decide +kernel
theorem dX11_give_56 : decode cX11_give 56 = .ok (.getfield 75, 3) := by decide +kernel
theorem dX11_give_59 : decode cX11_give 59 = .ok (.invokevirtual 233, 3) := by decide +kernel
theorem dX11_give_62 : decode cX11_give 62 = .ok (.aload_n 0, 1) := by decide +kernel
theorem dX11_give_63 : decode cX11_give 63 = .ok (.getfield 75, 3) := by decide +kernel
theorem dX11_give_66 : decode cX11_give 66 = .ok (.dup, 1) := by decide +kernel
theorem dX11_give_67 : decode cX11_give 67 = .ok (.getfield 192, 3) := by decide +kernel
theorem dX11_give_70 : decode cX11_give 70 = .ok (.iload_n 1, 1) := by decide +kernel
theorem dX11_give_71 : decode cX11_give 71 = .ok (.iadd, 1) := by decide +kernel
theorem dX11_give_72 : decode cX11_give 72 = .ok (.putfield 192, 3) := by decide +kernel
theorem dX11_give_75 : decode cX11_give 75 = .ok (.aload_n 0, 1) := by decide +kernel
theorem dX11_give_76 : decode cX11_give 76 = .ok (.getfield 75, 3) := by decide +kernel
theorem dX11_give_79 : decode cX11_give 79 = .ok (.getfield 192, 3) := by decide +kernel
theorem dX11_give_82 : decode cX11_give 82 = .ok (.ireturn, 1) := by decide +kernel
theorem dX11_years_0 : decode cX11_years 0 = .ok (.aload_n 0, 1) := by decide +kernel
theorem dX11_years_1 : decode cX11_years 1 = .ok (.invokevirtual 183, 3) := by decide +kernel
theorem dX11_years_4 : decode cX11_years 4 = .ok (.ifCond .eq 29, 3) := by decide +kernel
theorem dX11_years_7 : decode cX11_years 7 = .ok (.iload_n 1, 1) := by decide +kernel
theorem dX11_years_8 : decode cX11_years 8 = .ok (.iconst 1, 1) := by decide +kernel
theorem dX11_years_9 : decode cX11_years 9 = .ok (.if_icmp .lt 24, 3) := by decide +kernel
theorem dX11_years_12 : decode cX11_years 12 = .ok (.iload_n 1, 1) := by decide +kernel
theorem dX11_years_13 : decode cX11_years 13 = .ok (.bipush 60, 2) := by decide +kernel
theorem dX11_years_15 : decode cX11_years 15 = .ok (.if_icmp .gt 18, 3) := by decide +kernel
theorem dX11_years_18 : decode cX11_years 18 = .ok (.aload_n 0, 1) := by decide +kernel
theorem dX11_years_19 : decode cX11_years 19 = .ok (.getfield 75, 3) := by decide +kernel
theorem dX11_years_22 : decode cX11_years 22 = .ok (.getfield 230, 3) := by decide +kernel
theorem dX11_years_25 : decode cX11_years 25 = .ok (.iload_n 1, 1) := by decide +kernel
theorem dX11_years_26 : decode cX11_years 26 = .ok (.iadd, 1) := by decide +kernel
theorem dX11_years_27 : decode cX11_years 27 = .ok (.sipush 9999, 3) := by decide +kernel
theorem dX11_years_30 : decode cX11_years 30 = .ok (.if_icmp .le 5, 3) := by decide +kernel
theorem dX11_years_33 : decode cX11_years 33 = .ok (.iconst (-1), 1) := by decide +kernel
theorem dX11_years_34 : decode cX11_years 34 = .ok (.ireturn, 1) := by decide +kernel
theorem dX11_years_35 : decode cX11_years 35 = .ok (.aload_n 0, 1) := by decide +kernel
theorem dX11_years_36 : decode cX11_years 36 = .ok (.lload_n 2, 1) := by decide +kernel
theorem dX11_years_37 : decode cX11_years 37 = .ok (.putfield 106, 3) := by decide +kernel
theorem dX11_years_40 : decode cX11_years 40 = .ok (.iconst 0, 1) := by decide +kernel
theorem dX11_years_41 : decode cX11_years 41 = .ok (.istore 4, 2) := by decide +kernel
theorem dX11_years_43 : decode cX11_years 43 = .ok (.iload 4, 2) := by decide +kernel
theorem dX11_years_45 : decode cX11_years 45 = .ok (.iload_n 1, 1) := by decide +kernel
theorem dX11_years_46 : decode cX11_years 46 = .ok (.if_icmp .ge 28, 3) := by decide +kernel
theorem dX11_years_49 : decode cX11_years 49 = .ok (.aload_n 0, 1) := by decide +kernel
theorem dX11_years_50 : decode cX11_years 50 = .ok (.getfield 82, 3) := by decide +kernel
theorem dX11_years_53 : decode cX11_years 53 = .ok (.aload_n 0, 1) := by decide +kernel
theorem dX11_years_54 : decode cX11_years 54 = .ok (.getfield 75, 3) := by decide +kernel
theorem dX11_years_57 : decode cX11_years 57 = .ok (.invokevirtual 233, 3) := by decide +kernel
theorem dX11_years_60 : decode cX11_years 60 = .ok (.aload_n 0, 1) := by decide +kernel
theorem dX11_years_61 : decode cX11_years 61 = .ok (.invokevirtual 243, 3) := by decide +kernel
theorem dX11_years_64 : decode cX11_years 64 = .ok (.aload_n 0, 1) := by decide +kernel
theorem dX11_years_65 : decode cX11_years 65 = .ok (.invokevirtual 236, 3) := by decide +kernel
theorem dX11_years_68 : decode cX11_years 68 = .ok (.iinc 4 1, 3) := by decide +kernel
theorem dX11_years_71 : decode cX11_years 71 = .ok (.goto (-28), 3) := by decide +kernel
theorem dX11_years_74 : decode cX11_years 74 = .ok (.aload_n 0, 1) := by decide +kernel
theorem dX11_years_75 : decode cX11_years 75 = .ok (.getfield 75, 3) := by decide +kernel
theorem dX11_years_78 : decode cX11_years 78 = .ok (.getfield 230, 3) := by decide +kernel
theorem dX11_years_81 : decode cX11_years 81 = .ok (.ireturn, 1) := by decide +kernel
theorem dX11_status_0 : decode cX11_status 0 = .ok (.iload_n 1, 1) := by decide +kernel
theorem dX11_status_1 : decode cX11_status 1 = .ok (.ifCond .lt 12, 3) := by decide +kernel
theorem dX11_status_4 : decode cX11_status 4 = .ok (.iload_n 1, 1) := by decide +kernel
theorem dX11_status_5 : decode cX11_status 5 = .ok (.aload_n 0, 1) := by decide +kernel
theorem dX11_status_6 : decode cX11_status 6 = .ok (.getfield 69, 3) := by decide +kernel
theorem dX11_status_9 : decode cX11_status 9 = .ok (.arraylength, 1) := by decide +kernel
theorem dX11_status_10 : decode cX11_status 10 = .ok (.if_icmp .lt 7, 3) := by decide +kernel
theorem dX11_status_13 : decode cX11_status 13 = .ok (.iconst (-1), 1) := by decide +kernel
theorem dX11_status_14 : decode cX11_status 14 = .ok (.goto 9, 3) := by decide +kernel
theorem dX11_status_17 : decode cX11_status 17 = .ok (.aload_n 0, 1) := by decide +kernel
theorem dX11_status_18 : decode cX11_status 18 = .ok (.getfield 69, 3) := by decide +kernel
theorem dX11_status_21 : decode cX11_status 21 = .ok (.iload_n 1, 1) := by decide +kernel
theorem dX11_status_22 : decode cX11_status 22 = .ok (.iaload, 1) := by decide +kernel
theorem dX11_status_23 : decode cX11_status 23 = .ok (.ireturn, 1) := by decide +kernel
theorem dX11_undo_0 : decode cX11_undo 0 = .ok (.aload_n 0, 1) := by decide +kernel
theorem dX11_undo_1 : decode cX11_undo 1 = .ok (.getfield 82, 3) := by decide +kernel
theorem dX11_undo_4 : decode cX11_undo 4 = .ok (.aload_n 0, 1) := by decide +kernel
theorem dX11_undo_5 : decode cX11_undo 5 = .ok (.getfield 75, 3) := by decide +kernel
theorem dX11_undo_8 : decode cX11_undo 8 = .ok (.invokevirtual 246, 3) := by decide +kernel
theorem dX11_undo_11 : decode cX11_undo 11 = .ok (.ireturn, 1) := by decide +kernel
theorem dX11_log_0 : decode cX11_log 0 = .ok (.iload_n 1, 1) := by decide +kernel
theorem dX11_log_1 : decode cX11_log 1 = .ok (.ifCond .lt 23, 3) := by decide +kernel
theorem dX11_log_4 : decode cX11_log 4 = .ok (.iload_n 1, 1) := by decide +kernel
theorem dX11_log_5 : decode cX11_log 5 = .ok (.aload_n 0, 1) := by decide +kernel
theorem dX11_log_6 : decode cX11_log 6 = .ok (.getfield 75, 3) := by decide +kernel
theorem dX11_log_9 : decode cX11_log 9 = .ok (.invokevirtual 250, 3) := by decide +kernel
theorem dX11_log_12 : decode cX11_log 12 = .ok (.if_icmp .ge 12, 3) := by decide +kernel
theorem dX11_log_15 : decode cX11_log 15 = .ok (.iload_n 2, 1) := by decide +kernel
theorem dX11_log_16 : decode cX11_log 16 = .ok (.ifCond .lt 8, 3) := by decide +kernel
theorem dX11_log_19 : decode cX11_log 19 = .ok (.iload_n 2, 1) := by decide +kernel
theorem dX11_log_20 : decode cX11_log 20 = .ok (.iconst 4, 1) := by decide +kernel
theorem dX11_log_21 : decode cX11_log 21 = .ok (.if_icmp .lt 5, 3) := by decide +kernel
theorem dX11_log_24 : decode cX11_log 24 = .ok (.iconst (-1), 1) := by decide +kernel
theorem dX11_log_25 : decode cX11_log 25 = .ok (.ireturn, 1) := by decide +kernel
theorem dX11_log_26 : decode cX11_log 26 = .ok (.aload_n 0, 1) := by decide +kernel
theorem dX11_log_27 : decode cX11_log 27 = .ok (.getfield 75, 3) := by decide +kernel
theorem dX11_log_30 : decode cX11_log 30 = .ok (.iload_n 1, 1) := by decide +kernel
theorem dX11_log_31 : decode cX11_log 31 = .ok (.invokevirtual 253, 3) := by decide +kernel
theorem dX11_log_34 : decode cX11_log 34 = .ok (.iconst 5, 1) := by decide +kernel
theorem dX11_log_35 : decode cX11_log 35 = .ok (.iload_n 2, 1) := by decide +kernel
theorem dX11_log_36 : decode cX11_log 36 = .ok (.imul, 1) := by decide +kernel
theorem dX11_log_37 : decode cX11_log 37 = .ok (.ishr, 1) := by decide +kernel
theorem dX11_log_38 : decode cX11_log 38 = .ok (.bipush 31, 2) := by decide +kernel
theorem dX11_log_40 : decode cX11_log 40 = .ok (.iand, 1) := by decide +kernel
theorem dX11_log_41 : decode cX11_log 41 = .ok (.ireturn, 1) := by decide +kernel
theorem dX11_refused_0 : decode cX11_refused 0 = .ok (.iload_n 1, 1) := by decide +kernel
theorem dX11_refused_1 : decode cX11_refused 1 = .ok (.ifCond .lt 22, 3) := by decide +kernel
theorem dX11_refused_4 : decode cX11_refused 4 = .ok (.iload_n 1, 1) := by decide +kernel
theorem dX11_refused_5 : decode cX11_refused 5 = .ok (.aload_n 0, 1) := by decide +kernel
theorem dX11_refused_6 : decode cX11_refused 6 = .ok (.getfield 69, 3) := by decide +kernel
theorem dX11_refused_9 : decode cX11_refused 9 = .ok (.arraylength, 1) := by decide +kernel
theorem dX11_refused_10 : decode cX11_refused 10 = .ok (.if_icmp .ge 13, 3) := by decide +kernel
theorem dX11_refused_13 : decode cX11_refused 13 = .ok (.aload_n 0, 1) := by decide +kernel
theorem dX11_refused_14 : decode cX11_refused 14 = .ok (.getfield 69, 3) := by decide +kernel
theorem dX11_refused_17 : decode cX11_refused 17 = .ok (.iload_n 1, 1) := by decide +kernel
theorem dX11_refused_18 : decode cX11_refused 18 = .ok (.dup2, 1) := by decide +kernel
theorem dX11_refused_19 : decode cX11_refused 19 = .ok (.iaload, 1) := by decide +kernel
theorem dX11_refused_20 : decode cX11_refused 20 = .ok (.iconst 1, 1) := by decide +kernel
theorem dX11_refused_21 : decode cX11_refused 21 = .ok (.iadd, 1) := by decide +kernel
theorem dX11_refused_22 : decode cX11_refused 22 = .ok (.iastore, 1) := by decide +kernel
theorem dX11_refused_23 : decode cX11_refused 23 = .ok (.iconst (-1), 1) := by decide +kernel
theorem dX11_refused_24 : decode cX11_refused 24 = .ok (.ireturn, 1) := by decide +kernel
theorem dX11_shove_0 : decode cX11_shove 0 = .ok (.aload_n 1, 1) := by decide +kernel
theorem dX11_shove_1 : decode cX11_shove 1 = .ok (.aload_n 1, 1) := by decide +kernel
theorem dX11_shove_2 : decode cX11_shove 2 = .ok (.getfield 157, 3) := by decide +kernel
theorem dX11_shove_5 : decode cX11_shove 5 = .ok (.iload_n 2, 1) := by decide +kernel
theorem dX11_shove_6 : decode cX11_shove 6 = .ok (.iadd, 1) := by decide +kernel
theorem dX11_shove_7 : decode cX11_shove 7 = .ok (.aload_n 0, 1) := by decide +kernel
theorem dX11_shove_8 : decode cX11_shove 8 = .ok (.aload_n 1, 1) := by decide +kernel
theorem dX11_shove_9 : decode cX11_shove 9 = .ok (.invokevirtual 162, 3) := by decide +kernel
theorem dX11_shove_12 : decode cX11_shove 12 = .ok (.invokevirtual 166, 3) := by decide +kernel
theorem dX11_shove_15 : decode cX11_shove 15 = .ok (.invokestatic 169, 3) := by decide +kernel
theorem dX11_shove_18 : decode cX11_shove 18 = .ok (.putfield 157, 3) := by decide +kernel
theorem dX11_shove_21 : decode cX11_shove 21 = .ok (.return_, 1) := by decide +kernel
theorem dX11_tickOnce_0 : decode cX11_tickOnce 0 = .ok (.aload_n 0, 1) := by decide +kernel
theorem dX11_tickOnce_1 : decode cX11_tickOnce 1 = .ok (.getfield 75, 3) := by decide +kernel
theorem dX11_tickOnce_4 : decode cX11_tickOnce 4 = .ok (.getfield 189, 3) := by decide +kernel
theorem dX11_tickOnce_7 : decode cX11_tickOnce 7 = .ok (.ifCond .le 52, 3) := by decide +kernel
theorem dX11_tickOnce_10 : decode cX11_tickOnce 10 = .ok (.aload_n 0, 1) := by decide +kernel
theorem dX11_tickOnce_11 : decode cX11_tickOnce 11 = .ok (.getfield 75, 3) := by decide +kernel
theorem dX11_tickOnce_14 : decode cX11_tickOnce 14 = .ok (.dup, 1) := by decide +kernel
theorem dX11_tickOnce_15 : decode cX11_tickOnce 15 = .ok (.getfield 189, 3) := by decide +kernel
theorem dX11_tickOnce_18 : decode cX11_tickOnce 18 = .ok (.iconst 1, 1) := by decide +kernel
theorem dX11_tickOnce_19 : decode cX11_tickOnce 19 = .ok (.isub, 1) := by decide +kernel
theorem dX11_tickOnce_20 : decode cX11_tickOnce 20 = .ok (.putfield 189, 3) := by decide +kernel
theorem dX11_tickOnce_23 : decode cX11_tickOnce 23 = .ok (.iconst 0, 1) := by decide +kernel
theorem dX11_tickOnce_24 : decode cX11_tickOnce 24 = .ok (.istore_n 1, 1) := by decide +kernel
theorem dX11_tickOnce_25 : decode cX11_tickOnce 25 = .ok (.iload_n 1, 1) := by decide +kernel
theorem dX11_tickOnce_26 : decode cX11_tickOnce 26 = .ok (.aload_n 0, 1) := by decide +kernel
theorem dX11_tickOnce_27 : decode cX11_tickOnce 27 = .ok (.getfield 75, 3) := by decide +kernel
theorem dX11_tickOnce_30 : decode cX11_tickOnce 30 = .ok (.getfield 150, 3) := by decide +kernel
theorem dX11_tickOnce_33 : decode cX11_tickOnce 33 = .ok (.if_icmp .ge 26, 3) := by decide +kernel
theorem dX11_tickOnce_36 : decode cX11_tickOnce 36 = .ok (.aload_n 0, 1) := by decide +kernel
theorem dX11_tickOnce_37 : decode cX11_tickOnce 37 = .ok (.getfield 75, 3) := by decide +kernel
theorem dX11_tickOnce_40 : decode cX11_tickOnce 40 = .ok (.getfield 153, 3) := by decide +kernel
theorem dX11_tickOnce_43 : decode cX11_tickOnce 43 = .ok (.iload_n 1, 1) := by decide +kernel
theorem dX11_tickOnce_44 : decode cX11_tickOnce 44 = .ok (.aaload, 1) := by decide +kernel
theorem dX11_tickOnce_45 : decode cX11_tickOnce 45 = .ok (.aload_n 0, 1) := by decide +kernel
theorem dX11_tickOnce_46 : decode cX11_tickOnce 46 = .ok (.iload_n 1, 1) := by decide +kernel
theorem dX11_tickOnce_47 : decode cX11_tickOnce 47 = .ok (.invokevirtual 256, 3) := by decide +kernel
theorem dX11_tickOnce_50 : decode cX11_tickOnce 50 = .ok (.putfield 157, 3) := by decide +kernel
theorem dX11_tickOnce_53 : decode cX11_tickOnce 53 = .ok (.iinc 1 1, 3) := by decide +kernel
theorem dX11_tickOnce_56 : decode cX11_tickOnce 56 = .ok (.goto (-31), 3) := by decide +kernel
theorem dX11_tickOnce_59 : decode cX11_tickOnce 59 = .ok (.aload_n 0, 1) := by decide +kernel
theorem dX11_tickOnce_60 : decode cX11_tickOnce 60 = .ok (.getfield 75, 3) := by decide +kernel
theorem dX11_tickOnce_63 : decode cX11_tickOnce 63 = .ok (.dup, 1) := by decide +kernel
theorem dX11_tickOnce_64 : decode cX11_tickOnce 64 = .ok (.getfield 230, 3) := by decide +kernel
theorem dX11_tickOnce_67 : decode cX11_tickOnce 67 = .ok (.iconst 1, 1) := by decide +kernel
theorem dX11_tickOnce_68 : decode cX11_tickOnce 68 = .ok (.iadd, 1) := by decide +kernel
theorem dX11_tickOnce_69 : decode cX11_tickOnce 69 = .ok (.putfield 230, 3) := by decide +kernel
theorem dX11_tickOnce_72 : decode cX11_tickOnce 72 = .ok (.aload_n 0, 1) := by decide +kernel
theorem dX11_tickOnce_73 : decode cX11_tickOnce 73 = .ok (.getfield 75, 3) := by decide +kernel
theorem dX11_tickOnce_76 : decode cX11_tickOnce 76 = .ok (.getfield 230, 3) := by decide +kernel
theorem dX11_tickOnce_79 : decode cX11_tickOnce 79 = .ok (.aload_n 0, 1) := by decide +kernel
theorem dX11_tickOnce_80 : decode cX11_tickOnce 80 = .ok (.getfield 75, 3) := by decide +kernel
theorem dX11_tickOnce_83 : decode cX11_tickOnce 83 = .ok (.getfield 186, 3) := by decide +kernel
theorem dX11_tickOnce_86 : decode cX11_tickOnce 86 = .ok (.invokestatic 169, 3) := by decide +kernel
theorem dX11_tickOnce_89 : decode cX11_tickOnce 89 = .ok (.ifCond .ne 7, 3) := by decide +kernel
theorem dX11_tickOnce_92 : decode cX11_tickOnce 92 = .ok (.aload_n 0, 1) := by decide +kernel
theorem dX11_tickOnce_93 : decode cX11_tickOnce 93 = .ok (.invokevirtual 259, 3) := by decide +kernel
theorem dX11_tickOnce_96 : decode cX11_tickOnce 96 = .ok (.return_, 1) := by decide +kernel
theorem dX11_lookOnce_0 : decode cX11_lookOnce 0 = .ok (.iconst 0, 1) := by decide +kernel
theorem dX11_lookOnce_1 : decode cX11_lookOnce 1 = .ok (.istore_n 1, 1) := by decide +kernel
theorem dX11_lookOnce_2 : decode cX11_lookOnce 2 = .ok (.iconst 0, 1) := by decide +kernel
theorem dX11_lookOnce_3 : decode cX11_lookOnce 3 = .ok (.istore_n 2, 1) := by decide +kernel
theorem dX11_lookOnce_4 : decode cX11_lookOnce 4 = .ok (.iload_n 2, 1) := by decide +kernel
theorem dX11_lookOnce_5 : decode cX11_lookOnce 5 = .ok (.iconst 4, 1) := by decide +kernel
theorem dX11_lookOnce_6 : decode cX11_lookOnce 6 = .ok (.if_icmp .ge 47, 3) := by decide +kernel
theorem dX11_lookOnce_9 : decode cX11_lookOnce 9 = .ok (.iload_n 2, 1) := by decide +kernel
theorem dX11_lookOnce_10 : decode cX11_lookOnce 10 = .ok (.aload_n 0, 1) := by decide +kernel
theorem dX11_lookOnce_11 : decode cX11_lookOnce 11 = .ok (.getfield 75, 3) := by decide +kernel
theorem dX11_lookOnce_14 : decode cX11_lookOnce 14 = .ok (.getfield 150, 3) := by decide +kernel
theorem dX11_lookOnce_17 : decode cX11_lookOnce 17 = .ok (.if_icmp .ge 19, 3) := by decide +kernel
theorem dX11_lookOnce_20 : decode cX11_lookOnce 20 = .ok (.aload_n 0, 1) := by decide +kernel
theorem dX11_lookOnce_21 : decode cX11_lookOnce 21 = .ok (.aload_n 0, 1) := by decide +kernel
theorem dX11_lookOnce_22 : decode cX11_lookOnce 22 = .ok (.getfield 75, 3) := by decide +kernel
theorem dX11_lookOnce_25 : decode cX11_lookOnce 25 = .ok (.getfield 153, 3) := by decide +kernel
theorem dX11_lookOnce_28 : decode cX11_lookOnce 28 = .ok (.iload_n 2, 1) := by decide +kernel
theorem dX11_lookOnce_29 : decode cX11_lookOnce 29 = .ok (.aaload, 1) := by decide +kernel
theorem dX11_lookOnce_30 : decode cX11_lookOnce 30 = .ok (.invokevirtual 215, 3) := by decide +kernel
theorem dX11_lookOnce_33 : decode cX11_lookOnce 33 = .ok (.goto 5, 3) := by decide +kernel
theorem dX11_lookOnce_36 : decode cX11_lookOnce 36 = .ok (.bipush 26, 2) := by decide +kernel
theorem dX11_lookOnce_38 : decode cX11_lookOnce 38 = .ok (.istore_n 3, 1) := by decide +kernel
theorem dX11_lookOnce_39 : decode cX11_lookOnce 39 = .ok (.iload_n 1, 1) := by decide +kernel
theorem dX11_lookOnce_40 : decode cX11_lookOnce 40 = .ok (.iload_n 3, 1) := by decide +kernel
theorem dX11_lookOnce_41 : decode cX11_lookOnce 41 = .ok (.iconst 5, 1) := by decide +kernel
theorem dX11_lookOnce_42 : decode cX11_lookOnce 42 = .ok (.iload_n 2, 1) := by decide +kernel
theorem dX11_lookOnce_43 : decode cX11_lookOnce 43 = .ok (.imul, 1) := by decide +kernel
theorem dX11_lookOnce_44 : decode cX11_lookOnce 44 = .ok (.ishl, 1) := by decide +kernel
theorem dX11_lookOnce_45 : decode cX11_lookOnce 45 = .ok (.ior, 1) := by decide +kernel
theorem dX11_lookOnce_46 : decode cX11_lookOnce 46 = .ok (.istore_n 1, 1) := by decide +kernel
theorem dX11_lookOnce_47 : decode cX11_lookOnce 47 = .ok (.iinc 2 1, 3) := by decide +kernel
theorem dX11_lookOnce_50 : decode cX11_lookOnce 50 = .ok (.goto (-46), 3) := by decide +kernel
theorem dX11_lookOnce_53 : decode cX11_lookOnce 53 = .ok (.aload_n 0, 1) := by decide +kernel
theorem dX11_lookOnce_54 : decode cX11_lookOnce 54 = .ok (.getfield 75, 3) := by decide +kernel
theorem dX11_lookOnce_57 : decode cX11_lookOnce 57 = .ok (.iload_n 1, 1) := by decide +kernel
theorem dX11_lookOnce_58 : decode cX11_lookOnce 58 = .ok (.invokevirtual 262, 3) := by decide +kernel
theorem dX11_lookOnce_61 : decode cX11_lookOnce 61 = .ok (.aload_n 0, 1) := by decide +kernel
theorem dX11_lookOnce_62 : decode cX11_lookOnce 62 = .ok (.invokevirtual 265, 3) := by decide +kernel
theorem dX11_lookOnce_65 : decode cX11_lookOnce 65 = .ok (.ifCond .eq 29, 3) := by decide +kernel
theorem dX11_lookOnce_68 : decode cX11_lookOnce 68 = .ok (.aload_n 0, 1) := by decide +kernel
theorem dX11_lookOnce_69 : decode cX11_lookOnce 69 = .ok (.getfield 75, 3) := by decide +kernel
theorem dX11_lookOnce_72 : decode cX11_lookOnce 72 = .ok (.getfield 192, 3) := by decide +kernel
theorem dX11_lookOnce_75 : decode cX11_lookOnce 75 = .ok (.sipush 999, 3) := by decide +kernel
theorem dX11_lookOnce_78 : decode cX11_lookOnce 78 = .ok (.if_icmp .ge 16, 3) := by decide +kernel
theorem dX11_lookOnce_81 : decode cX11_lookOnce 81 = .ok (.aload_n 0, 1) := by decide +kernel
theorem dX11_lookOnce_82 : decode cX11_lookOnce 82 = .ok (.getfield 75, 3) := by decide +kernel
theorem dX11_lookOnce_85 : decode cX11_lookOnce 85 = .ok (.dup, 1) := by decide +kernel
theorem dX11_lookOnce_86 : decode cX11_lookOnce 86 = .ok (.getfield 192, 3) := by decide +kernel
theorem dX11_lookOnce_89 : decode cX11_lookOnce 89 = .ok (.iconst 1, 1) := by decide +kernel
theorem dX11_lookOnce_90 : decode cX11_lookOnce 90 = .ok (.iadd, 1) := by decide +kernel
theorem dX11_lookOnce_91 : decode cX11_lookOnce 91 = .ok (.putfield 192, 3) := by decide +kernel
theorem dX11_lookOnce_94 : decode cX11_lookOnce 94 = .ok (.return_, 1) := by decide +kernel
theorem dX11_allShowOne_0 : decode cX11_allShowOne 0 = .ok (.aload_n 0, 1) := by decide +kernel
theorem dX11_allShowOne_1 : decode cX11_allShowOne 1 = .ok (.aload_n 0, 1) := by decide +kernel
theorem dX11_allShowOne_2 : decode cX11_allShowOne 2 = .ok (.getfield 75, 3) := by decide +kernel
theorem dX11_allShowOne_5 : decode cX11_allShowOne 5 = .ok (.getfield 153, 3) := by decide +kernel
theorem dX11_allShowOne_8 : decode cX11_allShowOne 8 = .ok (.iconst 0, 1) := by decide +kernel
theorem dX11_allShowOne_9 : decode cX11_allShowOne 9 = .ok (.aaload, 1) := by decide +kernel
theorem dX11_allShowOne_10 : decode cX11_allShowOne 10 = .ok (.invokevirtual 215, 3) := by decide +kernel
theorem dX11_allShowOne_13 : decode cX11_allShowOne 13 = .ok (.istore_n 1, 1) := by decide +kernel
theorem dX11_allShowOne_14 : decode cX11_allShowOne 14 = .ok (.aload_n 0, 1) := by decide +kernel
theorem dX11_allShowOne_15 : decode cX11_allShowOne 15 = .ok (.getfield 75, 3) := by decide +kernel
theorem dX11_allShowOne_18 : decode cX11_allShowOne 18 = .ok (.getfield 150, 3) := by decide +kernel
theorem dX11_allShowOne_21 : decode cX11_allShowOne 21 = .ok (.iconst 1, 1) := by decide +kernel
theorem dX11_allShowOne_22 : decode cX11_allShowOne 22 = .ok (.if_icmp .le 13, 3) := by decide +kernel
theorem dX11_allShowOne_25 : decode cX11_allShowOne 25 = .ok (.iload_n 1, 1) := by decide +kernel
theorem dX11_allShowOne_26 : decode cX11_allShowOne 26 = .ok (.bipush 26, 2) := by decide +kernel
theorem dX11_allShowOne_28 : decode cX11_allShowOne 28 = .ok (.if_icmp .eq 7, 3) := by decide +kernel
theorem dX11_allShowOne_31 : decode cX11_allShowOne 31 = .ok (.iconst 1, 1) := by decide +kernel
theorem dX11_allShowOne_32 : decode cX11_allShowOne 32 = .ok (.goto 4, 3) := by decide +kernel
theorem dX11_allShowOne_35 : decode cX11_allShowOne 35 = .ok (.iconst 0, 1) := by decide +kernel
theorem dX11_allShowOne_36 : decode cX11_allShowOne 36 = .ok (.istore_n 2, 1) := by decide +kernel
theorem dX11_allShowOne_37 : decode cX11_allShowOne 37 = .ok (.iconst 1, 1) := by decide +kernel
theorem dX11_allShowOne_38 : decode cX11_allShowOne 38 = .ok (.istore_n 3, 1) := by decide +kernel
theorem dX11_allShowOne_39 : decode cX11_allShowOne 39 = .ok (.iload_n 3, 1) := by decide +kernel
theorem dX11_allShowOne_40 : decode cX11_allShowOne 40 = .ok (.aload_n 0, 1) := by decide +kernel
theorem dX11_allShowOne_41 : decode cX11_allShowOne 41 = .ok (.getfield 75, 3) := by decide +kernel
theorem dX11_allShowOne_44 : decode cX11_allShowOne 44 = .ok (.getfield 150, 3) := by decide +kernel
theorem dX11_allShowOne_47 : decode cX11_allShowOne 47 = .ok (.if_icmp .ge 36, 3) := by decide +kernel
theorem dX11_allShowOne_50 : decode cX11_allShowOne 50 = .ok (.iload_n 2, 1) := by decide +kernel
theorem dX11_allShowOne_51 : decode cX11_allShowOne 51 = .ok (.ifCond .eq 24, 3) := by decide +kernel
theorem dX11_allShowOne_54 : decode cX11_allShowOne 54 = .ok (.aload_n 0, 1) := by decide +kernel
theorem dX11_allShowOne_55 : decode cX11_allShowOne 55 = .ok (.aload_n 0, 1) := by decide +kernel
theorem dX11_allShowOne_56 : decode cX11_allShowOne 56 = .ok (.getfield 75, 3) := by decide +kernel
theorem dX11_allShowOne_59 : decode cX11_allShowOne 59 = .ok (.getfield 153, 3) := by decide +kernel
theorem dX11_allShowOne_62 : decode cX11_allShowOne 62 = .ok (.iload_n 3, 1) := by decide +kernel
theorem dX11_allShowOne_63 : decode cX11_allShowOne 63 = .ok (.aaload, 1) := by decide +kernel
theorem dX11_allShowOne_64 : decode cX11_allShowOne 64 = .ok (.invokevirtual 215, 3) := by decide +kernel
theorem dX11_allShowOne_67 : decode cX11_allShowOne 67 = .ok (.iload_n 1, 1) := by decide +kernel
theorem dX11_allShowOne_68 : decode cX11_allShowOne 68 = .ok (.if_icmp .ne 7, 3) := by decide +kernel
theorem dX11_allShowOne_71 : decode cX11_allShowOne 71 = .ok (.iconst 1, 1) := by decide +kernel
theorem dX11_allShowOne_72 : decode cX11_allShowOne 72 = .ok (.goto 4, 3) := by decide +kernel
theorem dX11_allShowOne_75 : decode cX11_allShowOne 75 = .ok (.iconst 0, 1) := by decide +kernel
theorem dX11_allShowOne_76 : decode cX11_allShowOne 76 = .ok (.istore_n 2, 1) := by decide +kernel
theorem dX11_allShowOne_77 : decode cX11_allShowOne 77 = .ok (.iinc 3 1, 3) := by decide +kernel
theorem dX11_allShowOne_80 : decode cX11_allShowOne 80 = .ok (.goto (-41), 3) := by decide +kernel
theorem dX11_allShowOne_83 : decode cX11_allShowOne 83 = .ok (.iload_n 2, 1) := by decide +kernel
theorem dX11_allShowOne_84 : decode cX11_allShowOne 84 = .ok (.ireturn, 1) := by decide +kernel
theorem dX11_meddle_0 : decode cX11_meddle 0 = .ok (.aload_n 0, 1) := by decide +kernel
theorem dX11_meddle_1 : decode cX11_meddle 1 = .ok (.bipush 10, 2) := by decide +kernel
theorem dX11_meddle_3 : decode cX11_meddle 3 = .ok (.invokevirtual 268, 3) := by decide +kernel
theorem dX11_meddle_6 : decode cX11_meddle 6 = .ok (.aload_n 0, 1) := by decide +kernel
theorem dX11_meddle_7 : decode cX11_meddle 7 = .ok (.getfield 66, 3) := by decide +kernel
theorem dX11_meddle_10 : decode cX11_meddle 10 = .ok (.if_icmp .ge 46, 3) := by decide +kernel
theorem dX11_meddle_13 : decode cX11_meddle 13 = .ok (.aload_n 0, 1) := by decide +kernel
theorem dX11_meddle_14 : decode cX11_meddle 14 = .ok (.aload_n 0, 1) := by decide +kernel
theorem dX11_meddle_15 : decode cX11_meddle 15 = .ok (.getfield 75, 3) := by decide +kernel
theorem dX11_meddle_18 : decode cX11_meddle 18 = .ok (.getfield 150, 3) := by decide +kernel
theorem dX11_meddle_21 : decode cX11_meddle 21 = .ok (.invokevirtual 268, 3) := by decide +kernel
theorem dX11_meddle_24 : decode cX11_meddle 24 = .ok (.istore_n 1, 1) := by decide +kernel
theorem dX11_meddle_25 : decode cX11_meddle 25 = .ok (.aload_n 0, 1) := by decide +kernel
theorem dX11_meddle_26 : decode cX11_meddle 26 = .ok (.bipush 9, 2) := by decide +kernel
theorem dX11_meddle_28 : decode cX11_meddle 28 = .ok (.invokevirtual 268, 3) := by decide +kernel
theorem dX11_meddle_31 : decode cX11_meddle 31 = .ok (.iconst 1, 1) := by decide +kernel
theorem dX11_meddle_32 : decode cX11_meddle 32 = .ok (.iadd, 1) := by decide +kernel
theorem dX11_meddle_33 : decode cX11_meddle 33 = .ok (.istore_n 2, 1) := by decide +kernel
theorem dX11_meddle_34 : decode cX11_meddle 34 = .ok (.aload_n 0, 1) := by decide +kernel
theorem dX11_meddle_35 : decode cX11_meddle 35 = .ok (.iload_n 1, 1) := by decide +kernel
theorem dX11_meddle_36 : decode cX11_meddle 36 = .ok (.invokevirtual 195, 3) := by decide +kernel
theorem dX11_meddle_39 : decode cX11_meddle 39 = .ok (.ifCond .eq 17, 3) := by decide +kernel
theorem dX11_meddle_42 : decode cX11_meddle 42 = .ok (.aload_n 0, 1) := by decide +kernel
theorem dX11_meddle_43 : decode cX11_meddle 43 = .ok (.aload_n 0, 1) := by decide +kernel
theorem dX11_meddle_44 : decode cX11_meddle 44 = .ok (.getfield 75, 3) := by decide +kernel
theorem dX11_meddle_47 : decode cX11_meddle 47 = .ok (.getfield 153, 3) := by decide +kernel
theorem dX11_meddle_50 : decode cX11_meddle 50 = .ok (.iload_n 1, 1) := by decide +kernel
theorem dX11_meddle_51 : decode cX11_meddle 51 = .ok (.aaload, 1) := by decide +kernel
theorem dX11_meddle_52 : decode cX11_meddle 52 = .ok (.iload_n 2, 1) := by decide +kernel
theorem dX11_meddle_53 : decode cX11_meddle 53 = .ok (.invokevirtual 239, 3) := by decide +kernel
theorem dX11_meddle_56 : decode cX11_meddle 56 = .ok (.aload_n 0, 1) := by decide +kernel
theorem dX11_meddle_57 : decode cX11_meddle 57 = .ok (.bipush 10, 2) := by decide +kernel
theorem dX11_meddle_59 : decode cX11_meddle 59 = .ok (.invokevirtual 268, 3) := by decide +kernel
theorem dX11_meddle_62 : decode cX11_meddle 62 = .ok (.iconst 2, 1) := by decide +kernel
theorem dX11_meddle_63 : decode cX11_meddle 63 = .ok (.if_icmp .ge 43, 3) := by decide +kernel
theorem dX11_meddle_66 : decode cX11_meddle 66 = .ok (.aload_n 0, 1) := by decide +kernel
theorem dX11_meddle_67 : decode cX11_meddle 67 = .ok (.aload_n 0, 1) := by decide +kernel
theorem dX11_meddle_68 : decode cX11_meddle 68 = .ok (.getfield 75, 3) := by decide +kernel
theorem dX11_meddle_71 : decode cX11_meddle 71 = .ok (.getfield 150, 3) := by decide +kernel
theorem dX11_meddle_74 : decode cX11_meddle 74 = .ok (.invokevirtual 268, 3) := by decide +kernel
theorem dX11_meddle_77 : decode cX11_meddle 77 = .ok (.istore_n 1, 1) := by decide +kernel
theorem dX11_meddle_78 : decode cX11_meddle 78 = .ok (.aload_n 0, 1) := by decide +kernel
theorem dX11_meddle_79 : decode cX11_meddle 79 = .ok (.bipush 10, 2) := by decide +kernel
theorem dX11_meddle_81 : decode cX11_meddle 81 = .ok (.invokevirtual 268, 3) := by decide +kernel
theorem dX11_meddle_84 : decode cX11_meddle 84 = .ok (.istore_n 2, 1) := by decide +kernel
theorem dX11_meddle_85 : decode cX11_meddle 85 = .ok (.aload_n 0, 1) := by decide +kernel
theorem dX11_meddle_86 : decode cX11_meddle 86 = .ok (.iload_n 1, 1) := by decide +kernel
theorem dX11_meddle_87 : decode cX11_meddle 87 = .ok (.invokevirtual 195, 3) := by decide +kernel
theorem dX11_meddle_90 : decode cX11_meddle 90 = .ok (.ifCond .eq 16, 3) := by decide +kernel
theorem dX11_meddle_93 : decode cX11_meddle 93 = .ok (.aload_n 0, 1) := by decide +kernel
theorem dX11_meddle_94 : decode cX11_meddle 94 = .ok (.getfield 75, 3) := by decide +kernel
theorem dX11_meddle_97 : decode cX11_meddle 97 = .ok (.getfield 153, 3) := by decide +kernel
theorem dX11_meddle_100 : decode cX11_meddle 100 = .ok (.iload_n 1, 1) := by decide +kernel
theorem dX11_meddle_101 : decode cX11_meddle 101 = .ok (.aaload, 1) := by decide +kernel
theorem dX11_meddle_102 : decode cX11_meddle 102 = .ok (.iload_n 2, 1) := by decide +kernel
theorem dX11_meddle_103 : decode cX11_meddle 103 = .ok (.putfield 206, 3) := by decide +kernel
theorem dX11_meddle_106 : decode cX11_meddle 106 = .ok (.aload_n 0, 1) := by decide +kernel
theorem dX11_meddle_107 : decode cX11_meddle 107 = .ok (.getfield 75, 3) := by decide +kernel
theorem dX11_meddle_110 : decode cX11_meddle 110 = .ok (.sipush 999, 3) := by decide +kernel
theorem dX11_meddle_113 : decode cX11_meddle 113 = .ok (.aload_n 0, 1) := by decide +kernel
theorem dX11_meddle_114 : decode cX11_meddle 114 = .ok (.getfield 75, 3) := by decide +kernel
theorem dX11_meddle_117 : decode cX11_meddle 117 = .ok (.getfield 189, 3) := by decide +kernel
theorem dX11_meddle_120 : decode cX11_meddle 120 = .ok (.iconst 1, 1) := by decide +kernel
theorem dX11_meddle_121 : decode cX11_meddle 121 = .ok (.iadd, 1) := by decide +kernel
theorem dX11_meddle_122 : decode cX11_meddle 122 = .ok (.invokestatic 271, 3) := by decide +kernel
theorem dX11_meddle_125 : decode cX11_meddle 125 = .ok (.putfield 189, 3) := by decide +kernel
theorem dX11_meddle_128 : decode cX11_meddle 128 = .ok (.return_, 1) := by decide +kernel
theorem dX11_draw_0 : decode cX11_draw 0 = .ok (.aload_n 0, 1) := by decide +kernel
theorem dX11_draw_1 : decode cX11_draw 1 = .ok (.aload_n 0, 1) := by decide +kernel
theorem dX11_draw_2 : decode cX11_draw 2 = .ok (.getfield 106, 3) := by decide +kernel
theorem dX11_draw_5 : decode cX11_draw 5 = .ok (.ldc2_w 276, 3) := by decide +kernel
theorem dX11_draw_8 : decode cX11_draw 8 = .ok (.lmul, 1) := by decide +kernel
theorem dX11_draw_9 : decode cX11_draw 9 = .ok (.ldc2_w 278, 3) := by decide +kernel
theorem dX11_draw_12 : decode cX11_draw 12 = .ok (.ladd, 1) := by decide +kernel
theorem dX11_draw_13 : decode cX11_draw 13 = .ok (.putfield 106, 3) := by decide +kernel
theorem dX11_draw_16 : decode cX11_draw 16 = .ok (.iload_n 1, 1) := by decide +kernel
theorem dX11_draw_17 : decode cX11_draw 17 = .ok (.iconst 1, 1) := by decide +kernel
theorem dX11_draw_18 : decode cX11_draw 18 = .ok (.if_icmp .ge 7, 3) := by decide +kernel
theorem dX11_draw_21 : decode cX11_draw 21 = .ok (.iconst 0, 1) := by decide +kernel
theorem dX11_draw_22 : decode cX11_draw 22 = .ok (.goto 14, 3) := by decide +kernel
theorem dX11_draw_25 : decode cX11_draw 25 = .ok (.aload_n 0, 1) := by decide +kernel
theorem dX11_draw_26 : decode cX11_draw 26 = .ok (.getfield 106, 3) := by decide +kernel
theorem dX11_draw_29 : decode cX11_draw 29 = .ok (.bipush 33, 2) := by decide +kernel
theorem dX11_draw_31 : decode cX11_draw 31 = .ok (.lushr, 1) := by decide +kernel
theorem dX11_draw_32 : decode cX11_draw 32 = .ok (.iload_n 1, 1) := by decide +kernel
theorem dX11_draw_33 : decode cX11_draw 33 = .ok (.i2l, 1) := by decide +kernel
theorem dX11_draw_34 : decode cX11_draw 34 = .ok (.lrem, 1) := by decide +kernel
theorem dX11_draw_35 : decode cX11_draw 35 = .ok (.l2i, 1) := by decide +kernel
theorem dX11_draw_36 : decode cX11_draw 36 = .ok (.ireturn, 1) := by decide +kernel
theorem dX11_at_0 : decode cX11_at 0 = .ok (.aload_n 0, 1) := by decide +kernel
theorem dX11_at_1 : decode cX11_at 1 = .ok (.iload_n 1, 1) := by decide +kernel
theorem dX11_at_2 : decode cX11_at 2 = .ok (.invokevirtual 195, 3) := by decide +kernel
theorem dX11_at_5 : decode cX11_at 5 = .ok (.ifCond .eq 13, 3) := by decide +kernel
theorem dX11_at_8 : decode cX11_at 8 = .ok (.iload_n 2, 1) := by decide +kernel
theorem dX11_at_9 : decode cX11_at 9 = .ok (.ifCond .lt 9, 3) := by decide +kernel
theorem dX11_at_12 : decode cX11_at 12 = .ok (.iload_n 2, 1) := by decide +kernel
theorem dX11_at_13 : decode cX11_at 13 = .ok (.bipush 99, 2) := by decide +kernel
theorem dX11_at_15 : decode cX11_at 15 = .ok (.if_icmp .le 5, 3) := by decide +kernel
theorem dX11_at_18 : decode cX11_at 18 = .ok (.iconst (-1), 1) := by decide +kernel
theorem dX11_at_19 : decode cX11_at 19 = .ok (.ireturn, 1) := by decide +kernel
theorem dX11_at_20 : decode cX11_at 20 = .ok (.aload_n 0, 1) := by decide +kernel
theorem dX11_at_21 : decode cX11_at 21 = .ok (.iload_n 1, 1) := by decide +kernel
theorem dX11_at_22 : decode cX11_at 22 = .ok (.invokevirtual 280, 3) := by decide +kernel
theorem dX11_at_25 : decode cX11_at 25 = .ok (.iload_n 2, 1) := by decide +kernel
theorem dX11_at_26 : decode cX11_at 26 = .ok (.aload_n 0, 1) := by decide +kernel
theorem dX11_at_27 : decode cX11_at 27 = .ok (.getfield 75, 3) := by decide +kernel
theorem dX11_at_30 : decode cX11_at 30 = .ok (.getfield 186, 3) := by decide +kernel
theorem dX11_at_33 : decode cX11_at 33 = .ok (.imul, 1) := by decide +kernel
theorem dX11_at_34 : decode cX11_at 34 = .ok (.invokevirtual 284, 3) := by decide +kernel
theorem dX11_at_37 : decode cX11_at 37 = .ok (.ireturn, 1) := by decide +kernel
theorem dX11_seems_0 : decode cX11_seems 0 = .ok (.aload_n 0, 1) := by decide +kernel
theorem dX11_seems_1 : decode cX11_seems 1 = .ok (.iload_n 1, 1) := by decide +kernel
theorem dX11_seems_2 : decode cX11_seems 2 = .ok (.invokevirtual 195, 3) := by decide +kernel
theorem dX11_seems_5 : decode cX11_seems 5 = .ok (.ifCond .eq 14, 3) := by decide +kernel
theorem dX11_seems_8 : decode cX11_seems 8 = .ok (.iload_n 2, 1) := by decide +kernel
theorem dX11_seems_9 : decode cX11_seems 9 = .ok (.iconst 1, 1) := by decide +kernel
theorem dX11_seems_10 : decode cX11_seems 10 = .ok (.if_icmp .lt 9, 3) := by decide +kernel
theorem dX11_seems_13 : decode cX11_seems 13 = .ok (.iload_n 2, 1) := by decide +kernel
theorem dX11_seems_14 : decode cX11_seems 14 = .ok (.bipush 60, 2) := by decide +kernel
theorem dX11_seems_16 : decode cX11_seems 16 = .ok (.if_icmp .le 7, 3) := by decide +kernel
theorem dX11_seems_19 : decode cX11_seems 19 = .ok (.ldc_w 287, 3) := by decide +kernel
theorem dX11_seems_22 : decode cX11_seems 22 = .ok (.ireturn, 1) := by decide +kernel
theorem dX11_seems_23 : decode cX11_seems 23 = .ok (.aload_n 0, 1) := by decide +kernel
theorem dX11_seems_24 : decode cX11_seems 24 = .ok (.getfield 75, 3) := by decide +kernel
theorem dX11_seems_27 : decode cX11_seems 27 = .ok (.getfield 153, 3) := by decide +kernel
theorem dX11_seems_30 : decode cX11_seems 30 = .ok (.iload_n 1, 1) := by decide +kernel
theorem dX11_seems_31 : decode cX11_seems 31 = .ok (.aaload, 1) := by decide +kernel
theorem dX11_seems_32 : decode cX11_seems 32 = .ok (.astore_n 3, 1) := by decide +kernel
theorem dX11_seems_33 : decode cX11_seems 33 = .ok (.aload_n 0, 1) := by decide +kernel
theorem dX11_seems_34 : decode cX11_seems 34 = .ok (.aload_n 3, 1) := by decide +kernel
theorem dX11_seems_35 : decode cX11_seems 35 = .ok (.invokevirtual 162, 3) := by decide +kernel
theorem dX11_seems_38 : decode cX11_seems 38 = .ok (.invokevirtual 166, 3) := by decide +kernel
theorem dX11_seems_41 : decode cX11_seems 41 = .ok (.istore 4, 2) := by decide +kernel
theorem dX11_seems_43 : decode cX11_seems 43 = .ok (.aload_n 0, 1) := by decide +kernel
theorem dX11_seems_44 : decode cX11_seems 44 = .ok (.iload_n 1, 1) := by decide +kernel
theorem dX11_seems_45 : decode cX11_seems 45 = .ok (.invokevirtual 280, 3) := by decide +kernel
theorem dX11_seems_48 : decode cX11_seems 48 = .ok (.iload_n 2, 1) := by decide +kernel
theorem dX11_seems_49 : decode cX11_seems 49 = .ok (.invokevirtual 288, 3) := by decide +kernel
theorem dX11_seems_52 : decode cX11_seems 52 = .ok (.aload_n 3, 1) := by decide +kernel
theorem dX11_seems_53 : decode cX11_seems 53 = .ok (.getfield 157, 3) := by decide +kernel
theorem dX11_seems_56 : decode cX11_seems 56 = .ok (.isub, 1) := by decide +kernel
theorem dX11_seems_57 : decode cX11_seems 57 = .ok (.iload 4, 2) := by decide +kernel
theorem dX11_seems_59 : decode cX11_seems 59 = .ok (.invokestatic 169, 3) := by decide +kernel
theorem dX11_seems_62 : decode cX11_seems 62 = .ok (.istore 5, 2) := by decide +kernel
theorem dX11_seems_64 : decode cX11_seems 64 = .ok (.iconst 2, 1) := by decide +kernel
theorem dX11_seems_65 : decode cX11_seems 65 = .ok (.iload 5, 2) := by decide +kernel
theorem dX11_seems_67 : decode cX11_seems 67 = .ok (.imul, 1) := by decide +kernel
theorem dX11_seems_68 : decode cX11_seems 68 = .ok (.iload 4, 2) := by decide +kernel
theorem dX11_seems_70 : decode cX11_seems 70 = .ok (.if_icmp .le 11, 3) := by decide +kernel
theorem dX11_seems_73 : decode cX11_seems 73 = .ok (.iload 5, 2) := by decide +kernel
theorem dX11_seems_75 : decode cX11_seems 75 = .ok (.iload 4, 2) := by decide +kernel
theorem dX11_seems_77 : decode cX11_seems 77 = .ok (.isub, 1) := by decide +kernel
theorem dX11_seems_78 : decode cX11_seems 78 = .ok (.goto 5, 3) := by decide +kernel
theorem dX11_seems_81 : decode cX11_seems 81 = .ok (.iload 5, 2) := by decide +kernel
theorem dX11_seems_83 : decode cX11_seems 83 = .ok (.ireturn, 1) := by decide +kernel
theorem dX11_stands_0 : decode cX11_stands 0 = .ok (.aload_n 0, 1) := by decide +kernel
theorem dX11_stands_1 : decode cX11_stands 1 = .ok (.iload_n 1, 1) := by decide +kernel
theorem dX11_stands_2 : decode cX11_stands 2 = .ok (.invokevirtual 195, 3) := by decide +kernel
theorem dX11_stands_5 : decode cX11_stands 5 = .ok (.ifCond .ne 5, 3) := by decide +kernel
theorem dX11_stands_8 : decode cX11_stands 8 = .ok (.iconst (-1), 1) := by decide +kernel
theorem dX11_stands_9 : decode cX11_stands 9 = .ok (.ireturn, 1) := by decide +kernel
theorem dX11_stands_10 : decode cX11_stands 10 = .ok (.aload_n 0, 1) := by decide +kernel
theorem dX11_stands_11 : decode cX11_stands 11 = .ok (.iload_n 1, 1) := by decide +kernel
theorem dX11_stands_12 : decode cX11_stands 12 = .ok (.invokevirtual 280, 3) := by decide +kernel
theorem dX11_stands_15 : decode cX11_stands 15 = .ok (.astore_n 3, 1) := by decide +kernel
theorem dX11_stands_16 : decode cX11_stands 16 = .ok (.iconst 0, 1) := by decide +kernel
theorem dX11_stands_17 : decode cX11_stands 17 = .ok (.istore 4, 2) := by decide +kernel
theorem dX11_stands_19 : decode cX11_stands 19 = .ok (.iconst 1, 1) := by decide +kernel
theorem dX11_stands_20 : decode cX11_stands 20 = .ok (.istore 5, 2) := by decide +kernel
theorem dX11_stands_22 : decode cX11_stands 22 = .ok (.iload 5, 2) := by decide +kernel
theorem dX11_stands_24 : decode cX11_stands 24 = .ok (.bipush 60, 2) := by decide +kernel
theorem dX11_stands_26 : decode cX11_stands 26 = .ok (.if_icmp .gt 30, 3) := by decide +kernel
theorem dX11_stands_29 : decode cX11_stands 29 = .ok (.aload_n 3, 1) := by decide +kernel
theorem dX11_stands_30 : decode cX11_stands 30 = .ok (.iload 5, 2) := by decide +kernel
theorem dX11_stands_32 : decode cX11_stands 32 = .ok (.invokevirtual 291, 3) := by decide +kernel
theorem dX11_stands_35 : decode cX11_stands 35 = .ok (.ifCond .eq 15, 3) := by decide +kernel
theorem dX11_stands_38 : decode cX11_stands 38 = .ok (.iload 4, 2) := by decide +kernel
theorem dX11_stands_40 : decode cX11_stands 40 = .ok (.iload_n 2, 1) := by decide +kernel
theorem dX11_stands_41 : decode cX11_stands 41 = .ok (.if_icmp .ne 6, 3) := by decide +kernel
theorem dX11_stands_44 : decode cX11_stands 44 = .ok (.iload 5, 2) := by decide +kernel
theorem dX11_stands_46 : decode cX11_stands 46 = .ok (.ireturn, 1) := by decide +kernel
theorem dX11_stands_47 : decode cX11_stands 47 = .ok (.iinc 4 1, 3) := by decide +kernel
theorem dX11_stands_50 : decode cX11_stands 50 = .ok (.iinc 5 1, 3) := by decide +kernel
theorem dX11_stands_53 : decode cX11_stands 53 = .ok (.goto (-31), 3) := by decide +kernel
theorem dX11_stands_56 : decode cX11_stands 56 = .ok (.iload_n 2, 1) := by decide +kernel
theorem dX11_stands_57 : decode cX11_stands 57 = .ok (.iconst (-1), 1) := by decide +kernel
theorem dX11_stands_58 : decode cX11_stands 58 = .ok (.if_icmp .ne 8, 3) := by decide +kernel
theorem dX11_stands_61 : decode cX11_stands 61 = .ok (.iload 4, 2) := by decide +kernel
theorem dX11_stands_63 : decode cX11_stands 63 = .ok (.goto 4, 3) := by decide +kernel
theorem dX11_stands_66 : decode cX11_stands 66 = .ok (.iconst (-1), 1) := by decide +kernel
theorem dX11_stands_67 : decode cX11_stands 67 = .ok (.ireturn, 1) := by decide +kernel
theorem dX11_together_0 : decode cX11_together 0 = .ok (.aload_n 0, 1) := by decide +kernel
theorem dX11_together_1 : decode cX11_together 1 = .ok (.invokevirtual 183, 3) := by decide +kernel
theorem dX11_together_4 : decode cX11_together 4 = .ok (.ifCond .ne 5, 3) := by decide +kernel
theorem dX11_together_7 : decode cX11_together 7 = .ok (.iconst (-1), 1) := by decide +kernel
theorem dX11_together_8 : decode cX11_together 8 = .ok (.ireturn, 1) := by decide +kernel
theorem dX11_together_9 : decode cX11_together 9 = .ok (.aload_n 0, 1) := by decide +kernel
theorem dX11_together_10 : decode cX11_together 10 = .ok (.invokevirtual 294, 3) := by decide +kernel
theorem dX11_together_13 : decode cX11_together 13 = .ok (.iconst 1, 1) := by decide +kernel
theorem dX11_together_14 : decode cX11_together 14 = .ok (.istore_n 1, 1) := by decide +kernel
theorem dX11_together_15 : decode cX11_together 15 = .ok (.iload_n 1, 1) := by decide +kernel
theorem dX11_together_16 : decode cX11_together 16 = .ok (.bipush 60, 2) := by decide +kernel
theorem dX11_together_18 : decode cX11_together 18 = .ok (.if_icmp .gt 51, 3) := by decide +kernel
theorem dX11_together_21 : decode cX11_together 21 = .ok (.iconst 1, 1) := by decide +kernel
theorem dX11_together_22 : decode cX11_together 22 = .ok (.istore_n 2, 1) := by decide +kernel
theorem dX11_together_23 : decode cX11_together 23 = .ok (.iconst 0, 1) := by decide +kernel
theorem dX11_together_24 : decode cX11_together 24 = .ok (.istore_n 3, 1) := by decide +kernel
theorem dX11_together_25 : decode cX11_together 25 = .ok (.iload_n 3, 1) := by decide +kernel
theorem dX11_together_26 : decode cX11_together 26 = .ok (.aload_n 0, 1) := by decide +kernel
theorem dX11_together_27 : decode cX11_together 27 = .ok (.getfield 75, 3) := by decide +kernel
theorem dX11_together_30 : decode cX11_together 30 = .ok (.getfield 150, 3) := by decide +kernel
theorem dX11_together_33 : decode cX11_together 33 = .ok (.if_icmp .ge 24, 3) := by decide +kernel
theorem dX11_together_36 : decode cX11_together 36 = .ok (.iload_n 2, 1) := by decide +kernel
theorem dX11_together_37 : decode cX11_together 37 = .ok (.ifCond .eq 20, 3) := by decide +kernel
theorem dX11_together_40 : decode cX11_together 40 = .ok (.aload_n 0, 1) := by decide +kernel
theorem dX11_together_41 : decode cX11_together 41 = .ok (.getfield 102, 3) := by decide +kernel
theorem dX11_together_44 : decode cX11_together 44 = .ok (.iload_n 3, 1) := by decide +kernel
theorem dX11_together_45 : decode cX11_together 45 = .ok (.aaload, 1) := by decide +kernel
theorem dX11_together_46 : decode cX11_together 46 = .ok (.iload_n 1, 1) := by decide +kernel
theorem dX11_together_47 : decode cX11_together 47 = .ok (.invokevirtual 291, 3) := by decide +kernel
theorem dX11_together_50 : decode cX11_together 50 = .ok (.istore_n 2, 1) := by decide +kernel
theorem dX11_together_51 : decode cX11_together 51 = .ok (.iinc 3 1, 3) := by decide +kernel
theorem dX11_together_54 : decode cX11_together 54 = .ok (.goto (-29), 3) := by decide +kernel
theorem dX11_together_57 : decode cX11_together 57 = .ok (.iload_n 2, 1) := by decide +kernel
theorem dX11_together_58 : decode cX11_together 58 = .ok (.ifCond .eq 5, 3) := by decide +kernel
theorem dX11_together_61 : decode cX11_together 61 = .ok (.iload_n 1, 1) := by decide +kernel
theorem dX11_together_62 : decode cX11_together 62 = .ok (.ireturn, 1) := by decide +kernel
theorem dX11_together_63 : decode cX11_together 63 = .ok (.iinc 1 1, 3) := by decide +kernel
theorem dX11_together_66 : decode cX11_together 66 = .ok (.goto (-51), 3) := by decide +kernel
theorem dX11_together_69 : decode cX11_together 69 = .ok (.iconst (-1), 1) := by decide +kernel
theorem dX11_together_70 : decode cX11_together 70 = .ok (.ireturn, 1) := by decide +kernel
theorem dX11_again_0 : decode cX11_again 0 = .ok (.iload_n 1, 1) := by decide +kernel
theorem dX11_again_1 : decode cX11_again 1 = .ok (.iconst (-1), 1) := by decide +kernel
theorem dX11_again_2 : decode cX11_again 2 = .ok (.if_icmp .ne 14, 3) := by decide +kernel
theorem dX11_again_5 : decode cX11_again 5 = .ok (.aload_n 0, 1) := by decide +kernel
theorem dX11_again_6 : decode cX11_again 6 = .ok (.invokevirtual 183, 3) := by decide +kernel
theorem dX11_again_9 : decode cX11_again 9 = .ok (.ifCond .eq 7, 3) := by decide +kernel
theorem dX11_again_12 : decode cX11_again 12 = .ok (.iconst 1, 1) := by decide +kernel
theorem dX11_again_13 : decode cX11_again 13 = .ok (.goto 4, 3) := by decide +kernel
theorem dX11_again_16 : decode cX11_again 16 = .ok (.iconst 0, 1) := by decide +kernel
theorem dX11_again_17 : decode cX11_again 17 = .ok (.istore_n 2, 1) := by decide +kernel
theorem dX11_again_18 : decode cX11_again 18 = .ok (.iload_n 2, 1) := by decide +kernel
theorem dX11_again_19 : decode cX11_again 19 = .ok (.ifCond .ne 13, 3) := by decide +kernel
theorem dX11_again_22 : decode cX11_again 22 = .ok (.aload_n 0, 1) := by decide +kernel
theorem dX11_again_23 : decode cX11_again 23 = .ok (.iload_n 1, 1) := by decide +kernel
theorem dX11_again_24 : decode cX11_again 24 = .ok (.invokevirtual 195, 3) := by decide +kernel
theorem dX11_again_27 : decode cX11_again 27 = .ok (.ifCond .ne 5, 3) := by decide +kernel
theorem dX11_again_30 : decode cX11_again 30 = .ok (.iconst (-1), 1) := by decide +kernel
theorem dX11_again_31 : decode cX11_again 31 = .ok (.ireturn, 1) := by decide +kernel
theorem dX11_again_32 : decode cX11_again 32 = .ok (.iload_n 2, 1) := by decide +kernel
theorem dX11_again_33 : decode cX11_again 33 = .ok (.ifCond .eq 7, 3) := by decide +kernel
theorem dX11_again_36 : decode cX11_again 36 = .ok (.iconst 0, 1) := by decide +kernel
theorem dX11_again_37 : decode cX11_again 37 = .ok (.goto 4, 3) := by decide +kernel
theorem dX11_again_40 : decode cX11_again 40 = .ok (.iload_n 1, 1) := by decide +kernel
theorem dX11_again_41 : decode cX11_again 41 = .ok (.istore_n 3, 1) := by decide +kernel
theorem dX11_again_42 : decode cX11_again 42 = .ok (.iload_n 2, 1) := by decide +kernel
theorem dX11_again_43 : decode cX11_again 43 = .ok (.ifCond .eq 13, 3) := by decide +kernel
theorem dX11_again_46 : decode cX11_again 46 = .ok (.aload_n 0, 1) := by decide +kernel
theorem dX11_again_47 : decode cX11_again 47 = .ok (.getfield 75, 3) := by decide +kernel
theorem dX11_again_50 : decode cX11_again 50 = .ok (.getfield 150, 3) := by decide +kernel
theorem dX11_again_53 : decode cX11_again 53 = .ok (.goto 6, 3) := by decide +kernel
theorem dX11_again_56 : decode cX11_again 56 = .ok (.iload_n 1, 1) := by decide +kernel
theorem dX11_again_57 : decode cX11_again 57 = .ok (.iconst 1, 1) := by decide +kernel
theorem dX11_again_58 : decode cX11_again 58 = .ok (.iadd, 1) := by decide +kernel
theorem dX11_again_59 : decode cX11_again 59 = .ok (.istore 4, 2) := by decide +kernel
theorem dX11_again_61 : decode cX11_again 61 = .ok (.iload_n 2, 1) := by decide +kernel
theorem dX11_again_62 : decode cX11_again 62 = .ok (.ifCond .eq 9, 3) := by decide +kernel
theorem dX11_again_65 : decode cX11_again 65 = .ok (.sipush 9999, 3) := by decide +kernel
theorem dX11_again_68 : decode cX11_again 68 = .ok (.goto 6, 3) := by decide +kernel
theorem dX11_again_71 : decode cX11_again 71 = .ok (.sipush 999, 3) := by decide +kernel
theorem dX11_again_74 : decode cX11_again 74 = .ok (.istore 5, 2) := by decide +kernel
theorem dX11_again_76 : decode cX11_again 76 = .ok (.aload_n 0, 1) := by decide +kernel
theorem dX11_again_77 : decode cX11_again 77 = .ok (.invokevirtual 294, 3) := by decide +kernel
theorem dX11_again_80 : decode cX11_again 80 = .ok (.iconst 1, 1) := by decide +kernel
theorem dX11_again_81 : decode cX11_again 81 = .ok (.istore 6, 2) := by decide +kernel
theorem dX11_again_83 : decode cX11_again 83 = .ok (.iload 6, 2) := by decide +kernel
theorem dX11_again_85 : decode cX11_again 85 = .ok (.iload 5, 2) := by decide +kernel
theorem dX11_again_87 : decode cX11_again 87 = .ok (.if_icmp .gt 55, 3) := by decide +kernel
theorem dX11_again_90 : decode cX11_again 90 = .ok (.iconst 1, 1) := by decide +kernel
theorem dX11_again_91 : decode cX11_again 91 = .ok (.istore 7, 2) := by decide +kernel
theorem dX11_again_93 : decode cX11_again 93 = .ok (.iload_n 3, 1) := by decide +kernel
theorem dX11_again_94 : decode cX11_again 94 = .ok (.istore 8, 2) := by decide +kernel
theorem dX11_again_96 : decode cX11_again 96 = .ok (.iload 8, 2) := by decide +kernel
theorem dX11_again_98 : decode cX11_again 98 = .ok (.iload 4, 2) := by decide +kernel
theorem dX11_again_100 : decode cX11_again 100 = .ok (.if_icmp .ge 28, 3) := by decide +kernel
theorem dX11_again_103 : decode cX11_again 103 = .ok (.iload 7, 2) := by decide +kernel
theorem dX11_again_105 : decode cX11_again 105 = .ok (.ifCond .eq 23, 3) := by decide +kernel
theorem dX11_again_108 : decode cX11_again 108 = .ok (.aload_n 0, 1) := by decide +kernel
theorem dX11_again_109 : decode cX11_again 109 = .ok (.getfield 102, 3) := by decide +kernel
theorem dX11_again_112 : decode cX11_again 112 = .ok (.iload 8, 2) := by decide +kernel
theorem dX11_again_114 : decode cX11_again 114 = .ok (.aaload, 1) := by decide +kernel
theorem dX11_again_115 : decode cX11_again 115 = .ok (.iload 6, 2) := by decide +kernel
theorem dX11_again_117 : decode cX11_again 117 = .ok (.invokevirtual 297, 3) := by decide +kernel
theorem dX11_again_120 : decode cX11_again 120 = .ok (.istore 7, 2) := by decide +kernel
theorem dX11_again_122 : decode cX11_again 122 = .ok (.iinc 8 1, 3) := by decide +kernel
theorem dX11_again_125 : decode cX11_again 125 = .ok (.goto (-29), 3) := by decide +kernel
theorem dX11_again_128 : decode cX11_again 128 = .ok (.iload 7, 2) := by decide +kernel
theorem dX11_again_130 : decode cX11_again 130 = .ok (.ifCond .eq 6, 3) := by decide +kernel
theorem dX11_again_133 : decode cX11_again 133 = .ok (.iload 6, 2) := by decide +kernel
theorem dX11_again_135 : decode cX11_again 135 = .ok (.ireturn, 1) := by decide +kernel
theorem dX11_again_136 : decode cX11_again 136 = .ok (.iinc 6 1, 3) := by decide +kernel
theorem dX11_again_139 : decode cX11_again 139 = .ok (.goto (-56), 3) := by decide +kernel
theorem dX11_again_142 : decode cX11_again 142 = .ok (.iconst (-1), 1) := by decide +kernel
theorem dX11_again_143 : decode cX11_again 143 = .ok (.ireturn, 1) := by decide +kernel
theorem dX11_meets_0 : decode cX11_meets 0 = .ok (.aload_n 0, 1) := by decide +kernel
theorem dX11_meets_1 : decode cX11_meets 1 = .ok (.iload_n 1, 1) := by decide +kernel
theorem dX11_meets_2 : decode cX11_meets 2 = .ok (.invokevirtual 195, 3) := by decide +kernel
theorem dX11_meets_5 : decode cX11_meets 5 = .ok (.ifCond .eq 16, 3) := by decide +kernel
theorem dX11_meets_8 : decode cX11_meets 8 = .ok (.aload_n 0, 1) := by decide +kernel
theorem dX11_meets_9 : decode cX11_meets 9 = .ok (.iload_n 2, 1) := by decide +kernel
theorem dX11_meets_10 : decode cX11_meets 10 = .ok (.invokevirtual 195, 3) := by decide +kernel
theorem dX11_meets_13 : decode cX11_meets 13 = .ok (.ifCond .eq 8, 3) := by decide +kernel
theorem dX11_meets_16 : decode cX11_meets 16 = .ok (.iload_n 1, 1) := by decide +kernel
theorem dX11_meets_17 : decode cX11_meets 17 = .ok (.iload_n 2, 1) := by decide +kernel
theorem dX11_meets_18 : decode cX11_meets 18 = .ok (.if_icmp .ne 5, 3) := by decide +kernel
theorem dX11_meets_21 : decode cX11_meets 21 = .ok (.iconst (-1), 1) := by decide +kernel
theorem dX11_meets_22 : decode cX11_meets 22 = .ok (.ireturn, 1) := by decide +kernel
theorem dX11_meets_23 : decode cX11_meets 23 = .ok (.aload_n 0, 1) := by decide +kernel
theorem dX11_meets_24 : decode cX11_meets 24 = .ok (.iload_n 1, 1) := by decide +kernel
theorem dX11_meets_25 : decode cX11_meets 25 = .ok (.invokevirtual 280, 3) := by decide +kernel
theorem dX11_meets_28 : decode cX11_meets 28 = .ok (.astore_n 3, 1) := by decide +kernel
theorem dX11_meets_29 : decode cX11_meets 29 = .ok (.aload_n 0, 1) := by decide +kernel
theorem dX11_meets_30 : decode cX11_meets 30 = .ok (.iload_n 2, 1) := by decide +kernel
theorem dX11_meets_31 : decode cX11_meets 31 = .ok (.invokevirtual 280, 3) := by decide +kernel
theorem dX11_meets_34 : decode cX11_meets 34 = .ok (.astore 4, 2) := by decide +kernel
theorem dX11_meets_36 : decode cX11_meets 36 = .ok (.iconst 0, 1) := by decide +kernel
theorem dX11_meets_37 : decode cX11_meets 37 = .ok (.istore 5, 2) := by decide +kernel
theorem dX11_meets_39 : decode cX11_meets 39 = .ok (.iload 5, 2) := by decide +kernel
theorem dX11_meets_41 : decode cX11_meets 41 = .ok (.sipush 999, 3) := by decide +kernel
theorem dX11_meets_44 : decode cX11_meets 44 = .ok (.if_icmp .gt 39, 3) := by decide +kernel
theorem dX11_meets_47 : decode cX11_meets 47 = .ok (.aload_n 3, 1) := by decide +kernel
theorem dX11_meets_48 : decode cX11_meets 48 = .ok (.iload 5, 2) := by decide +kernel
theorem dX11_meets_50 : decode cX11_meets 50 = .ok (.invokevirtual 284, 3) := by decide +kernel
theorem dX11_meets_53 : decode cX11_meets 53 = .ok (.istore 6, 2) := by decide +kernel
theorem dX11_meets_55 : decode cX11_meets 55 = .ok (.iload 6, 2) := by decide +kernel
theorem dX11_meets_57 : decode cX11_meets 57 = .ok (.bipush 26, 2) := by decide +kernel
theorem dX11_meets_59 : decode cX11_meets 59 = .ok (.if_icmp .eq 18, 3) := by decide +kernel
theorem dX11_meets_62 : decode cX11_meets 62 = .ok (.iload 6, 2) := by decide +kernel
theorem dX11_meets_64 : decode cX11_meets 64 = .ok (.aload 4, 2) := by decide +kernel
theorem dX11_meets_66 : decode cX11_meets 66 = .ok (.iload 5, 2) := by decide +kernel
theorem dX11_meets_68 : decode cX11_meets 68 = .ok (.invokevirtual 284, 3) := by decide +kernel
theorem dX11_meets_71 : decode cX11_meets 71 = .ok (.if_icmp .ne 6, 3) := by decide +kernel
theorem dX11_meets_74 : decode cX11_meets 74 = .ok (.iload 5, 2) := by decide +kernel
theorem dX11_meets_76 : decode cX11_meets 76 = .ok (.ireturn, 1) := by decide +kernel
theorem dX11_meets_77 : decode cX11_meets 77 = .ok (.iinc 5 1, 3) := by decide +kernel
theorem dX11_meets_80 : decode cX11_meets 80 = .ok (.goto (-41), 3) := by decide +kernel
theorem dX11_meets_83 : decode cX11_meets 83 = .ok (.iconst (-1), 1) := by decide +kernel
theorem dX11_meets_84 : decode cX11_meets 84 = .ok (.ireturn, 1) := by decide +kernel
theorem dX11_reads_0 : decode cX11_reads 0 = .ok (.aload_n 0, 1) := by decide +kernel
theorem dX11_reads_1 : decode cX11_reads 1 = .ok (.invokevirtual 183, 3) := by decide +kernel
theorem dX11_reads_4 : decode cX11_reads 4 = .ok (.ifCond .eq 11, 3) := by decide +kernel
theorem dX11_reads_7 : decode cX11_reads 7 = .ok (.aload_n 0, 1) := by decide +kernel
theorem dX11_reads_8 : decode cX11_reads 8 = .ok (.iload_n 1, 1) := by decide +kernel
theorem dX11_reads_9 : decode cX11_reads 9 = .ok (.invokevirtual 221, 3) := by decide +kernel
theorem dX11_reads_12 : decode cX11_reads 12 = .ok (.ifCond .ne 5, 3) := by decide +kernel
theorem dX11_reads_15 : decode cX11_reads 15 = .ok (.iconst (-1), 1) := by decide +kernel
theorem dX11_reads_16 : decode cX11_reads 16 = .ok (.ireturn, 1) := by decide +kernel
theorem dX11_reads_17 : decode cX11_reads 17 = .ok (.aload_n 0, 1) := by decide +kernel
theorem dX11_reads_18 : decode cX11_reads 18 = .ok (.invokevirtual 294, 3) := by decide +kernel
theorem dX11_reads_21 : decode cX11_reads 21 = .ok (.iconst 0, 1) := by decide +kernel
theorem dX11_reads_22 : decode cX11_reads 22 = .ok (.istore_n 2, 1) := by decide +kernel
theorem dX11_reads_23 : decode cX11_reads 23 = .ok (.iload_n 2, 1) := by decide +kernel
theorem dX11_reads_24 : decode cX11_reads 24 = .ok (.sipush 999, 3) := by decide +kernel
theorem dX11_reads_27 : decode cX11_reads 27 = .ok (.if_icmp .gt 73, 3) := by decide +kernel
theorem dX11_reads_30 : decode cX11_reads 30 = .ok (.iconst 1, 1) := by decide +kernel
theorem dX11_reads_31 : decode cX11_reads 31 = .ok (.istore_n 3, 1) := by decide +kernel
theorem dX11_reads_32 : decode cX11_reads 32 = .ok (.iconst 0, 1) := by decide +kernel
theorem dX11_reads_33 : decode cX11_reads 33 = .ok (.istore 4, 2) := by decide +kernel
theorem dX11_reads_35 : decode cX11_reads 35 = .ok (.iload 4, 2) := by decide +kernel
theorem dX11_reads_37 : decode cX11_reads 37 = .ok (.aload_n 0, 1) := by decide +kernel
theorem dX11_reads_38 : decode cX11_reads 38 = .ok (.getfield 75, 3) := by decide +kernel
theorem dX11_reads_41 : decode cX11_reads 41 = .ok (.getfield 150, 3) := by decide +kernel
theorem dX11_reads_44 : decode cX11_reads 44 = .ok (.if_icmp .ge 44, 3) := by decide +kernel
theorem dX11_reads_47 : decode cX11_reads 47 = .ok (.iload_n 3, 1) := by decide +kernel
theorem dX11_reads_48 : decode cX11_reads 48 = .ok (.ifCond .eq 40, 3) := by decide +kernel
theorem dX11_reads_51 : decode cX11_reads 51 = .ok (.aload_n 0, 1) := by decide +kernel
theorem dX11_reads_52 : decode cX11_reads 52 = .ok (.getfield 102, 3) := by decide +kernel
theorem dX11_reads_55 : decode cX11_reads 55 = .ok (.iload 4, 2) := by decide +kernel
theorem dX11_reads_57 : decode cX11_reads 57 = .ok (.aaload, 1) := by decide +kernel
theorem dX11_reads_58 : decode cX11_reads 58 = .ok (.iload_n 2, 1) := by decide +kernel
theorem dX11_reads_59 : decode cX11_reads 59 = .ok (.invokevirtual 284, 3) := by decide +kernel
theorem dX11_reads_62 : decode cX11_reads 62 = .ok (.aload_n 0, 1) := by decide +kernel
theorem dX11_reads_63 : decode cX11_reads 63 = .ok (.getfield 52, 3) := by decide +kernel
theorem dX11_reads_66 : decode cX11_reads 66 = .ok (.iload_n 1, 1) := by decide +kernel
theorem dX11_reads_67 : decode cX11_reads 67 = .ok (.aaload, 1) := by decide +kernel
theorem dX11_reads_68 : decode cX11_reads 68 = .ok (.iload 4, 2) := by decide +kernel
theorem dX11_reads_70 : decode cX11_reads 70 = .ok (.invokevirtual 224, 3) := by decide +kernel
theorem dX11_reads_73 : decode cX11_reads 73 = .ok (.if_icmp .ne 7, 3) := by decide +kernel
theorem dX11_reads_76 : decode cX11_reads 76 = .ok (.iconst 1, 1) := by decide +kernel
theorem dX11_reads_77 : decode cX11_reads 77 = .ok (.goto 4, 3) := by decide +kernel
theorem dX11_reads_80 : decode cX11_reads 80 = .ok (.iconst 0, 1) := by decide +kernel
theorem dX11_reads_81 : decode cX11_reads 81 = .ok (.istore_n 3, 1) := by decide +kernel
theorem dX11_reads_82 : decode cX11_reads 82 = .ok (.iinc 4 1, 3) := by decide +kernel
theorem dX11_reads_85 : decode cX11_reads 85 = .ok (.goto (-50), 3) := by decide +kernel
theorem dX11_reads_88 : decode cX11_reads 88 = .ok (.iload_n 3, 1) := by decide +kernel
theorem dX11_reads_89 : decode cX11_reads 89 = .ok (.ifCond .eq 5, 3) := by decide +kernel
theorem dX11_reads_92 : decode cX11_reads 92 = .ok (.iload_n 2, 1) := by decide +kernel
theorem dX11_reads_93 : decode cX11_reads 93 = .ok (.ireturn, 1) := by decide +kernel
theorem dX11_reads_94 : decode cX11_reads 94 = .ok (.iinc 2 1, 3) := by decide +kernel
theorem dX11_reads_97 : decode cX11_reads 97 = .ok (.goto (-74), 3) := by decide +kernel
theorem dX11_reads_100 : decode cX11_reads 100 = .ok (.iconst (-1), 1) := by decide +kernel
theorem dX11_reads_101 : decode cX11_reads 101 = .ok (.ireturn, 1) := by decide +kernel
theorem dX11_nextPlace_0 : decode cX11_nextPlace 0 = .ok (.aload_n 0, 1) := by decide +kernel
theorem dX11_nextPlace_1 : decode cX11_nextPlace 1 = .ok (.iload_n 1, 1) := by decide +kernel
theorem dX11_nextPlace_2 : decode cX11_nextPlace 2 = .ok (.invokevirtual 300, 3) := by decide +kernel
theorem dX11_nextPlace_5 : decode cX11_nextPlace 5 = .ok (.aload_n 0, 1) := by decide +kernel
theorem dX11_nextPlace_6 : decode cX11_nextPlace 6 = .ok (.getfield 75, 3) := by decide +kernel
theorem dX11_nextPlace_9 : decode cX11_nextPlace 9 = .ok (.getfield 153, 3) := by decide +kernel
theorem dX11_nextPlace_12 : decode cX11_nextPlace 12 = .ok (.iload_n 1, 1) := by decide +kernel
theorem dX11_nextPlace_13 : decode cX11_nextPlace 13 = .ok (.aaload, 1) := by decide +kernel
theorem dX11_nextPlace_14 : decode cX11_nextPlace 14 = .ok (.getfield 157, 3) := by decide +kernel
theorem dX11_nextPlace_17 : decode cX11_nextPlace 17 = .ok (.aload_n 0, 1) := by decide +kernel
theorem dX11_nextPlace_18 : decode cX11_nextPlace 18 = .ok (.getfield 75, 3) := by decide +kernel
theorem dX11_nextPlace_21 : decode cX11_nextPlace 21 = .ok (.getfield 230, 3) := by decide +kernel
theorem dX11_nextPlace_24 : decode cX11_nextPlace 24 = .ok (.invokevirtual 303, 3) := by decide +kernel
theorem dX11_nextPlace_27 : decode cX11_nextPlace 27 = .ok (.ireturn, 1) := by decide +kernel
theorem dX11_courseOf_0 : decode cX11_courseOf 0 = .ok (.aload_n 0, 1) := by decide +kernel
theorem dX11_courseOf_1 : decode cX11_courseOf 1 = .ok (.getfield 75, 3) := by decide +kernel
theorem dX11_courseOf_4 : decode cX11_courseOf 4 = .ok (.getfield 153, 3) := by decide +kernel
theorem dX11_courseOf_7 : decode cX11_courseOf 7 = .ok (.iload_n 1, 1) := by decide +kernel
theorem dX11_courseOf_8 : decode cX11_courseOf 8 = .ok (.aaload, 1) := by decide +kernel
theorem dX11_courseOf_9 : decode cX11_courseOf 9 = .ok (.astore_n 2, 1) := by decide +kernel
theorem dX11_courseOf_10 : decode cX11_courseOf 10 = .ok (.aload_n 0, 1) := by decide +kernel
theorem dX11_courseOf_11 : decode cX11_courseOf 11 = .ok (.getfield 102, 3) := by decide +kernel
theorem dX11_courseOf_14 : decode cX11_courseOf 14 = .ok (.iload_n 1, 1) := by decide +kernel
theorem dX11_courseOf_15 : decode cX11_courseOf 15 = .ok (.aaload, 1) := by decide +kernel
theorem dX11_courseOf_16 : decode cX11_courseOf 16 = .ok (.aload_n 2, 1) := by decide +kernel
theorem dX11_courseOf_17 : decode cX11_courseOf 17 = .ok (.aload_n 0, 1) := by decide +kernel
theorem dX11_courseOf_18 : decode cX11_courseOf 18 = .ok (.aload_n 2, 1) := by decide +kernel
theorem dX11_courseOf_19 : decode cX11_courseOf 19 = .ok (.invokevirtual 162, 3) := by decide +kernel
theorem dX11_courseOf_22 : decode cX11_courseOf 22 = .ok (.aload_n 0, 1) := by decide +kernel
theorem dX11_courseOf_23 : decode cX11_courseOf 23 = .ok (.invokevirtual 306, 3) := by decide +kernel
theorem dX11_courseOf_26 : decode cX11_courseOf 26 = .ok (.aload_n 0, 1) := by decide +kernel
theorem dX11_courseOf_27 : decode cX11_courseOf 27 = .ok (.getfield 75, 3) := by decide +kernel
theorem dX11_courseOf_30 : decode cX11_courseOf 30 = .ok (.getfield 186, 3) := by decide +kernel
theorem dX11_courseOf_33 : decode cX11_courseOf 33 = .ok (.aload_n 0, 1) := by decide +kernel
theorem dX11_courseOf_34 : decode cX11_courseOf 34 = .ok (.getfield 75, 3) := by decide +kernel
theorem dX11_courseOf_37 : decode cX11_courseOf 37 = .ok (.getfield 230, 3) := by decide +kernel
theorem dX11_courseOf_40 : decode cX11_courseOf 40 = .ok (.invokevirtual 310, 3) := by decide +kernel
theorem dX11_courseOf_43 : decode cX11_courseOf 43 = .ok (.aload_n 0, 1) := by decide +kernel
theorem dX11_courseOf_44 : decode cX11_courseOf 44 = .ok (.getfield 102, 3) := by decide +kernel
theorem dX11_courseOf_47 : decode cX11_courseOf 47 = .ok (.iload_n 1, 1) := by decide +kernel
theorem dX11_courseOf_48 : decode cX11_courseOf 48 = .ok (.aaload, 1) := by decide +kernel
theorem dX11_courseOf_49 : decode cX11_courseOf 49 = .ok (.areturn, 1) := by decide +kernel
theorem dX11_traced_0 : decode cX11_traced 0 = .ok (.aload_n 0, 1) := by decide +kernel
theorem dX11_traced_1 : decode cX11_traced 1 = .ok (.iload_n 1, 1) := by decide +kernel
theorem dX11_traced_2 : decode cX11_traced 2 = .ok (.invokevirtual 300, 3) := by decide +kernel
theorem dX11_traced_5 : decode cX11_traced 5 = .ok (.astore_n 2, 1) := by decide +kernel
theorem dX11_traced_6 : decode cX11_traced 6 = .ok (.aload_n 2, 1) := by decide +kernel
theorem dX11_traced_7 : decode cX11_traced 7 = .ok (.invokevirtual 314, 3) := by decide +kernel
theorem dX11_traced_10 : decode cX11_traced 10 = .ok (.aload_n 2, 1) := by decide +kernel
theorem dX11_traced_11 : decode cX11_traced 11 = .ok (.areturn, 1) := by decide +kernel
theorem dX11_traceAll_0 : decode cX11_traceAll 0 = .ok (.iconst 0, 1) := by decide +kernel
theorem dX11_traceAll_1 : decode cX11_traceAll 1 = .ok (.istore_n 1, 1) := by decide +kernel
theorem dX11_traceAll_2 : decode cX11_traceAll 2 = .ok (.iload_n 1, 1) := by decide +kernel
theorem dX11_traceAll_3 : decode cX11_traceAll 3 = .ok (.aload_n 0, 1) := by decide +kernel
theorem dX11_traceAll_4 : decode cX11_traceAll 4 = .ok (.getfield 75, 3) := by decide +kernel
theorem dX11_traceAll_7 : decode cX11_traceAll 7 = .ok (.getfield 150, 3) := by decide +kernel
theorem dX11_traceAll_10 : decode cX11_traceAll 10 = .ok (.if_icmp .ge 15, 3) := by decide +kernel
theorem dX11_traceAll_13 : decode cX11_traceAll 13 = .ok (.aload_n 0, 1) := by decide +kernel
theorem dX11_traceAll_14 : decode cX11_traceAll 14 = .ok (.iload_n 1, 1) := by decide +kernel
theorem dX11_traceAll_15 : decode cX11_traceAll 15 = .ok (.invokevirtual 280, 3) := by decide +kernel
theorem dX11_traceAll_18 : decode cX11_traceAll 18 = .ok (.pop, 1) := by decide +kernel
theorem dX11_traceAll_19 : decode cX11_traceAll 19 = .ok (.iinc 1 1, 3) := by decide +kernel
theorem dX11_traceAll_22 : decode cX11_traceAll 22 = .ok (.goto (-20), 3) := by decide +kernel
theorem dX11_traceAll_25 : decode cX11_traceAll 25 = .ok (.return_, 1) := by decide +kernel
theorem dX11_period_0 : decode cX11_period 0 = .ok (.aload_n 0, 1) := by decide +kernel
theorem dX11_period_1 : decode cX11_period 1 = .ok (.iload_n 1, 1) := by decide +kernel
theorem dX11_period_2 : decode cX11_period 2 = .ok (.invokevirtual 221, 3) := by decide +kernel
theorem dX11_period_5 : decode cX11_period 5 = .ok (.ifCond .eq 15, 3) := by decide +kernel
theorem dX11_period_8 : decode cX11_period 8 = .ok (.aload_n 0, 1) := by decide +kernel
theorem dX11_period_9 : decode cX11_period 9 = .ok (.getfield 52, 3) := by decide +kernel
theorem dX11_period_12 : decode cX11_period 12 = .ok (.iload_n 1, 1) := by decide +kernel
theorem dX11_period_13 : decode cX11_period 13 = .ok (.aaload, 1) := by decide +kernel
theorem dX11_period_14 : decode cX11_period 14 = .ok (.invokevirtual 317, 3) := by decide +kernel
theorem dX11_period_17 : decode cX11_period 17 = .ok (.goto 4, 3) := by decide +kernel
theorem dX11_period_20 : decode cX11_period 20 = .ok (.iconst (-1), 1) := by decide +kernel
theorem dX11_period_21 : decode cX11_period 21 = .ok (.ireturn, 1) := by decide +kernel
theorem dX11_least_0 : decode cX11_least 0 = .ok (.aload_n 0, 1) := by decide +kernel
theorem dX11_least_1 : decode cX11_least 1 = .ok (.iload_n 1, 1) := by decide +kernel
theorem dX11_least_2 : decode cX11_least 2 = .ok (.invokevirtual 221, 3) := by decide +kernel
theorem dX11_least_5 : decode cX11_least 5 = .ok (.ifCond .eq 15, 3) := by decide +kernel
theorem dX11_least_8 : decode cX11_least 8 = .ok (.aload_n 0, 1) := by decide +kernel
theorem dX11_least_9 : decode cX11_least 9 = .ok (.getfield 52, 3) := by decide +kernel
theorem dX11_least_12 : decode cX11_least 12 = .ok (.iload_n 1, 1) := by decide +kernel
theorem dX11_least_13 : decode cX11_least 13 = .ok (.aaload, 1) := by decide +kernel
theorem dX11_least_14 : decode cX11_least 14 = .ok (.invokevirtual 320, 3) := by decide +kernel
theorem dX11_least_17 : decode cX11_least 17 = .ok (.goto 4, 3) := by decide +kernel
theorem dX11_least_20 : decode cX11_least 20 = .ok (.iconst (-1), 1) := by decide +kernel
theorem dX11_least_21 : decode cX11_least 21 = .ok (.ireturn, 1) := by decide +kernel
theorem dX11_alike_0 : decode cX11_alike 0 = .ok (.aload_n 0, 1) := by decide +kernel
theorem dX11_alike_1 : decode cX11_alike 1 = .ok (.iload_n 1, 1) := by decide +kernel
theorem dX11_alike_2 : decode cX11_alike 2 = .ok (.invokevirtual 221, 3) := by decide +kernel
theorem dX11_alike_5 : decode cX11_alike 5 = .ok (.ifCond .eq 30, 3) := by decide +kernel
theorem dX11_alike_8 : decode cX11_alike 8 = .ok (.aload_n 0, 1) := by decide +kernel
theorem dX11_alike_9 : decode cX11_alike 9 = .ok (.iload_n 2, 1) := by decide +kernel
theorem dX11_alike_10 : decode cX11_alike 10 = .ok (.invokevirtual 221, 3) := by decide +kernel
theorem dX11_alike_13 : decode cX11_alike 13 = .ok (.ifCond .eq 22, 3) := by decide +kernel
theorem dX11_alike_16 : decode cX11_alike 16 = .ok (.aload_n 0, 1) := by decide +kernel
theorem dX11_alike_17 : decode cX11_alike 17 = .ok (.getfield 52, 3) := by decide +kernel
theorem dX11_alike_20 : decode cX11_alike 20 = .ok (.iload_n 1, 1) := by decide +kernel
theorem dX11_alike_21 : decode cX11_alike 21 = .ok (.aaload, 1) := by decide +kernel
theorem dX11_alike_22 : decode cX11_alike 22 = .ok (.aload_n 0, 1) := by decide +kernel
theorem dX11_alike_23 : decode cX11_alike 23 = .ok (.getfield 52, 3) := by decide +kernel
theorem dX11_alike_26 : decode cX11_alike 26 = .ok (.iload_n 2, 1) := by decide +kernel
theorem dX11_alike_27 : decode cX11_alike 27 = .ok (.aaload, 1) := by decide +kernel
theorem dX11_alike_28 : decode cX11_alike 28 = .ok (.iload_n 3, 1) := by decide +kernel
theorem dX11_alike_29 : decode cX11_alike 29 = .ok (.invokevirtual 323, 3) := by decide +kernel
theorem dX11_alike_32 : decode cX11_alike 32 = .ok (.goto 4, 3) := by decide +kernel
theorem dX11_alike_35 : decode cX11_alike 35 = .ok (.iconst (-1), 1) := by decide +kernel
theorem dX11_alike_36 : decode cX11_alike 36 = .ok (.ireturn, 1) := by decide +kernel
theorem dX11_mirror_0 : decode cX11_mirror 0 = .ok (.aload_n 0, 1) := by decide +kernel
theorem dX11_mirror_1 : decode cX11_mirror 1 = .ok (.iload_n 1, 1) := by decide +kernel
theorem dX11_mirror_2 : decode cX11_mirror 2 = .ok (.invokevirtual 221, 3) := by decide +kernel
theorem dX11_mirror_5 : decode cX11_mirror 5 = .ok (.ifCond .ne 5, 3) := by decide +kernel
theorem dX11_mirror_8 : decode cX11_mirror 8 = .ok (.iconst (-1), 1) := by decide +kernel
theorem dX11_mirror_9 : decode cX11_mirror 9 = .ok (.ireturn, 1) := by decide +kernel
theorem dX11_mirror_10 : decode cX11_mirror 10 = .ok (.aload_n 0, 1) := by decide +kernel
theorem dX11_mirror_11 : decode cX11_mirror 11 = .ok (.getfield 52, 3) := by decide +kernel
theorem dX11_mirror_14 : decode cX11_mirror 14 = .ok (.iload_n 1, 1) := by decide +kernel
theorem dX11_mirror_15 : decode cX11_mirror 15 = .ok (.aaload, 1) := by decide +kernel
theorem dX11_mirror_16 : decode cX11_mirror 16 = .ok (.aload_n 0, 1) := by decide +kernel
theorem dX11_mirror_17 : decode cX11_mirror 17 = .ok (.getfield 52, 3) := by decide +kernel
theorem dX11_mirror_20 : decode cX11_mirror 20 = .ok (.iload_n 1, 1) := by decide +kernel
theorem dX11_mirror_21 : decode cX11_mirror 21 = .ok (.aaload, 1) := by decide +kernel
theorem dX11_mirror_22 : decode cX11_mirror 22 = .ok (.iconst 1, 1) := by decide +kernel
theorem dX11_mirror_23 : decode cX11_mirror 23 = .ok (.invokevirtual 323, 3) := by decide +kernel
theorem dX11_mirror_26 : decode cX11_mirror 26 = .ok (.iconst (-1), 1) := by decide +kernel
theorem dX11_mirror_27 : decode cX11_mirror 27 = .ok (.if_icmp .ne 7, 3) := by decide +kernel
theorem dX11_mirror_30 : decode cX11_mirror 30 = .ok (.iconst 0, 1) := by decide +kernel
theorem dX11_mirror_31 : decode cX11_mirror 31 = .ok (.goto 4, 3) := by decide +kernel
theorem dX11_mirror_34 : decode cX11_mirror 34 = .ok (.iconst 1, 1) := by decide +kernel
theorem dX11_mirror_35 : decode cX11_mirror 35 = .ok (.ireturn, 1) := by decide +kernel
theorem dX11_rows_0 : decode cX11_rows 0 = .ok (.aload_n 0, 1) := by decide +kernel
theorem dX11_rows_1 : decode cX11_rows 1 = .ok (.iload_n 1, 1) := by decide +kernel
theorem dX11_rows_2 : decode cX11_rows 2 = .ok (.invokevirtual 221, 3) := by decide +kernel
theorem dX11_rows_5 : decode cX11_rows 5 = .ok (.ifCond .eq 27, 3) := by decide +kernel
theorem dX11_rows_8 : decode cX11_rows 8 = .ok (.iload_n 2, 1) := by decide +kernel
theorem dX11_rows_9 : decode cX11_rows 9 = .ok (.iconst 1, 1) := by decide +kernel
theorem dX11_rows_10 : decode cX11_rows 10 = .ok (.if_icmp .lt 22, 3) := by decide +kernel
theorem dX11_rows_13 : decode cX11_rows 13 = .ok (.iload_n 2, 1) := by decide +kernel
theorem dX11_rows_14 : decode cX11_rows 14 = .ok (.bipush 8, 2) := by decide +kernel
theorem dX11_rows_16 : decode cX11_rows 16 = .ok (.if_icmp .gt 16, 3) := by decide +kernel
theorem dX11_rows_19 : decode cX11_rows 19 = .ok (.aload_n 0, 1) := by decide +kernel
theorem dX11_rows_20 : decode cX11_rows 20 = .ok (.getfield 52, 3) := by decide +kernel
theorem dX11_rows_23 : decode cX11_rows 23 = .ok (.iload_n 1, 1) := by decide +kernel
theorem dX11_rows_24 : decode cX11_rows 24 = .ok (.aaload, 1) := by decide +kernel
theorem dX11_rows_25 : decode cX11_rows 25 = .ok (.iload_n 2, 1) := by decide +kernel
theorem dX11_rows_26 : decode cX11_rows 26 = .ok (.invokevirtual 327, 3) := by decide +kernel
theorem dX11_rows_29 : decode cX11_rows 29 = .ok (.goto 4, 3) := by decide +kernel
theorem dX11_rows_32 : decode cX11_rows 32 = .ok (.iconst (-1), 1) := by decide +kernel
theorem dX11_rows_33 : decode cX11_rows 33 = .ok (.ireturn, 1) := by decide +kernel
theorem dX11_kinds_0 : decode cX11_kinds 0 = .ok (.iload_n 1, 1) := by decide +kernel
theorem dX11_kinds_1 : decode cX11_kinds 1 = .ok (.iconst 1, 1) := by decide +kernel
theorem dX11_kinds_2 : decode cX11_kinds 2 = .ok (.if_icmp .lt 20, 3) := by decide +kernel
theorem dX11_kinds_5 : decode cX11_kinds 5 = .ok (.iload_n 1, 1) := by decide +kernel
theorem dX11_kinds_6 : decode cX11_kinds 6 = .ok (.bipush 12, 2) := by decide +kernel
theorem dX11_kinds_8 : decode cX11_kinds 8 = .ok (.if_icmp .gt 14, 3) := by decide +kernel
theorem dX11_kinds_11 : decode cX11_kinds 11 = .ok (.iload_n 2, 1) := by decide +kernel
theorem dX11_kinds_12 : decode cX11_kinds 12 = .ok (.iconst 1, 1) := by decide +kernel
theorem dX11_kinds_13 : decode cX11_kinds 13 = .ok (.if_icmp .lt 9, 3) := by decide +kernel
theorem dX11_kinds_16 : decode cX11_kinds 16 = .ok (.iload_n 2, 1) := by decide +kernel
theorem dX11_kinds_17 : decode cX11_kinds 17 = .ok (.bipush 6, 2) := by decide +kernel
theorem dX11_kinds_19 : decode cX11_kinds 19 = .ok (.if_icmp .le 5, 3) := by decide +kernel
theorem dX11_kinds_22 : decode cX11_kinds 22 = .ok (.iconst (-1), 1) := by decide +kernel
theorem dX11_kinds_23 : decode cX11_kinds 23 = .ok (.ireturn, 1) := by decide +kernel
theorem dX11_kinds_24 : decode cX11_kinds 24 = .ok (.lconst 0, 1) := by decide +kernel
theorem dX11_kinds_25 : decode cX11_kinds 25 = .ok (.lstore 4, 2) := by decide +kernel
theorem dX11_kinds_27 : decode cX11_kinds 27 = .ok (.iconst 0, 1) := by decide +kernel
theorem dX11_kinds_28 : decode cX11_kinds 28 = .ok (.istore 6, 2) := by decide +kernel
theorem dX11_kinds_30 : decode cX11_kinds 30 = .ok (.iload 6, 2) := by decide +kernel
theorem dX11_kinds_32 : decode cX11_kinds 32 = .ok (.iload_n 1, 1) := by decide +kernel
theorem dX11_kinds_33 : decode cX11_kinds 33 = .ok (.if_icmp .ge 47, 3) := by decide +kernel
theorem dX11_kinds_36 : decode cX11_kinds 36 = .ok (.lload 4, 2) := by decide +kernel
theorem dX11_kinds_38 : decode cX11_kinds 38 = .ok (.iload_n 2, 1) := by decide +kernel
theorem dX11_kinds_39 : decode cX11_kinds 39 = .ok (.iload 6, 2) := by decide +kernel
theorem dX11_kinds_41 : decode cX11_kinds 41 = .ok (.iload_n 1, 1) := by decide +kernel
theorem dX11_kinds_42 : decode cX11_kinds 42 = .ok (.invokestatic 330, 3) := by decide +kernel
theorem dX11_kinds_45 : decode cX11_kinds 45 = .ok (.invokestatic 333, 3) := by decide +kernel
theorem dX11_kinds_48 : decode cX11_kinds 48 = .ok (.ladd, 1) := by decide +kernel
theorem dX11_kinds_49 : decode cX11_kinds 49 = .ok (.lstore 4, 2) := by decide +kernel
theorem dX11_kinds_51 : decode cX11_kinds 51 = .ok (.lload 4, 2) := by decide +kernel
theorem dX11_kinds_53 : decode cX11_kinds 53 = .ok (.iload_n 3, 1) := by decide +kernel
theorem dX11_kinds_54 : decode cX11_kinds 54 = .ok (.ifCond .eq 16, 3) := by decide +kernel
theorem dX11_kinds_57 : decode cX11_kinds 57 = .ok (.iload_n 2, 1) := by decide +kernel
theorem dX11_kinds_58 : decode cX11_kinds 58 = .ok (.iload 6, 2) := by decide +kernel
theorem dX11_kinds_60 : decode cX11_kinds 60 = .ok (.iload_n 1, 1) := by decide +kernel
theorem dX11_kinds_61 : decode cX11_kinds 61 = .ok (.invokestatic 337, 3) := by decide +kernel
theorem dX11_kinds_64 : decode cX11_kinds 64 = .ok (.invokestatic 333, 3) := by decide +kernel
theorem dX11_kinds_67 : decode cX11_kinds 67 = .ok (.goto 4, 3) := by decide +kernel
theorem dX11_kinds_70 : decode cX11_kinds 70 = .ok (.lconst 0, 1) := by decide +kernel
theorem dX11_kinds_71 : decode cX11_kinds 71 = .ok (.ladd, 1) := by decide +kernel
theorem dX11_kinds_72 : decode cX11_kinds 72 = .ok (.lstore 4, 2) := by decide +kernel
theorem dX11_kinds_74 : decode cX11_kinds 74 = .ok (.iinc 6 1, 3) := by decide +kernel
theorem dX11_kinds_77 : decode cX11_kinds 77 = .ok (.goto (-47), 3) := by decide +kernel
theorem dX11_kinds_80 : decode cX11_kinds 80 = .ok (.lload 4, 2) := by decide +kernel
theorem dX11_kinds_82 : decode cX11_kinds 82 = .ok (.iload_n 3, 1) := by decide +kernel
theorem dX11_kinds_83 : decode cX11_kinds 83 = .ok (.ifCond .eq 9, 3) := by decide +kernel
theorem dX11_kinds_86 : decode cX11_kinds 86 = .ok (.iconst 2, 1) := by decide +kernel
theorem dX11_kinds_87 : decode cX11_kinds 87 = .ok (.iload_n 1, 1) := by decide +kernel
theorem dX11_kinds_88 : decode cX11_kinds 88 = .ok (.imul, 1) := by decide +kernel
theorem dX11_kinds_89 : decode cX11_kinds 89 = .ok (.goto 4, 3) := by decide +kernel
theorem dX11_kinds_92 : decode cX11_kinds 92 = .ok (.iload_n 1, 1) := by decide +kernel
theorem dX11_kinds_93 : decode cX11_kinds 93 = .ok (.i2l, 1) := by decide +kernel
theorem dX11_kinds_94 : decode cX11_kinds 94 = .ok (.ldiv, 1) := by decide +kernel
theorem dX11_kinds_95 : decode cX11_kinds 95 = .ok (.l2i, 1) := by decide +kernel
theorem dX11_kinds_96 : decode cX11_kinds 96 = .ok (.ireturn, 1) := by decide +kernel
theorem dX11_power_0 : decode cX11_power 0 = .ok (.lconst 1, 1) := by decide +kernel
theorem dX11_power_1 : decode cX11_power 1 = .ok (.lstore_n 2, 1) := by decide +kernel
theorem dX11_power_2 : decode cX11_power 2 = .ok (.iconst 0, 1) := by decide +kernel
theorem dX11_power_3 : decode cX11_power 3 = .ok (.istore 4, 2) := by decide +kernel
theorem dX11_power_5 : decode cX11_power 5 = .ok (.iload 4, 2) := by decide +kernel
theorem dX11_power_7 : decode cX11_power 7 = .ok (.iload_n 1, 1) := by decide +kernel
theorem dX11_power_8 : decode cX11_power 8 = .ok (.if_icmp .ge 14, 3) := by decide +kernel
theorem dX11_power_11 : decode cX11_power 11 = .ok (.lload_n 2, 1) := by decide +kernel
theorem dX11_power_12 : decode cX11_power 12 = .ok (.iload_n 0, 1) := by decide +kernel
theorem dX11_power_13 : decode cX11_power 13 = .ok (.i2l, 1) := by decide +kernel
theorem dX11_power_14 : decode cX11_power 14 = .ok (.lmul, 1) := by decide +kernel
theorem dX11_power_15 : decode cX11_power 15 = .ok (.lstore_n 2, 1) := by decide +kernel
theorem dX11_power_16 : decode cX11_power 16 = .ok (.iinc 4 1, 3) := by decide +kernel
theorem dX11_power_19 : decode cX11_power 19 = .ok (.goto (-14), 3) := by decide +kernel
theorem dX11_power_22 : decode cX11_power 22 = .ok (.lload_n 2, 1) := by decide +kernel
theorem dX11_power_23 : decode cX11_power 23 = .ok (.lreturn, 1) := by decide +kernel
theorem dX11_commonDivisor_0 : decode cX11_commonDivisor 0 = .ok (.iload_n 1, 1) := by decide +kernel
theorem dX11_commonDivisor_1 : decode cX11_commonDivisor 1 = .ok (.istore_n 2, 1) := by decide +kernel
theorem dX11_commonDivisor_2 : decode cX11_commonDivisor 2 = .ok (.iload_n 2, 1) := by decide +kernel
theorem dX11_commonDivisor_3 : decode cX11_commonDivisor 3 = .ok (.iconst 1, 1) := by decide +kernel
theorem dX11_commonDivisor_4 : decode cX11_commonDivisor 4 = .ok (.if_icmp .le 23, 3) := by decide +kernel
theorem dX11_commonDivisor_7 : decode cX11_commonDivisor 7 = .ok (.iload_n 1, 1) := by decide +kernel
theorem dX11_commonDivisor_8 : decode cX11_commonDivisor 8 = .ok (.iload_n 2, 1) := by decide +kernel
theorem dX11_commonDivisor_9 : decode cX11_commonDivisor 9 = .ok (.irem, 1) := by decide +kernel
theorem dX11_commonDivisor_10 : decode cX11_commonDivisor 10 = .ok (.ifCond .ne 11, 3) := by decide +kernel
theorem dX11_commonDivisor_13 : decode cX11_commonDivisor 13 = .ok (.iload_n 0, 1) := by decide +kernel
theorem dX11_commonDivisor_14 : decode cX11_commonDivisor 14 = .ok (.iload_n 2, 1) := by decide +kernel
theorem dX11_commonDivisor_15 : decode cX11_commonDivisor 15 = .ok (.irem, 1) := by decide +kernel
theorem dX11_commonDivisor_16 : decode cX11_commonDivisor 16 = .ok (.ifCond .ne 5, 3) := by decide +kernel
theorem dX11_commonDivisor_19 : decode cX11_commonDivisor 19 = .ok (.iload_n 2, 1) := by decide +kernel
theorem dX11_commonDivisor_20 : decode cX11_commonDivisor 20 = .ok (.ireturn, 1) := by decide +kernel
theorem dX11_commonDivisor_21 : decode cX11_commonDivisor 21 = .ok (.iinc 2 (-1), 3) := by decide +kernel
theorem dX11_commonDivisor_24 : decode cX11_commonDivisor 24 = .ok (.goto (-22), 3) := by decide +kernel
theorem dX11_commonDivisor_27 : decode cX11_commonDivisor 27 = .ok (.iconst 1, 1) := by decide +kernel
theorem dX11_commonDivisor_28 : decode cX11_commonDivisor 28 = .ok (.ireturn, 1) := by decide +kernel
theorem dX11_pairsOver_0 : decode cX11_pairsOver 0 = .ok (.iconst 0, 1) := by decide +kernel
theorem dX11_pairsOver_1 : decode cX11_pairsOver 1 = .ok (.istore_n 2, 1) := by decide +kernel
theorem dX11_pairsOver_2 : decode cX11_pairsOver 2 = .ok (.iconst 0, 1) := by decide +kernel
theorem dX11_pairsOver_3 : decode cX11_pairsOver 3 = .ok (.istore_n 3, 1) := by decide +kernel
theorem dX11_pairsOver_4 : decode cX11_pairsOver 4 = .ok (.iload_n 3, 1) := by decide +kernel
theorem dX11_pairsOver_5 : decode cX11_pairsOver 5 = .ok (.iload_n 1, 1) := by decide +kernel
theorem dX11_pairsOver_6 : decode cX11_pairsOver 6 = .ok (.if_icmp .ge 28, 3) := by decide +kernel
theorem dX11_pairsOver_9 : decode cX11_pairsOver 9 = .ok (.iload_n 2, 1) := by decide +kernel
theorem dX11_pairsOver_10 : decode cX11_pairsOver 10 = .ok (.iload_n 0, 1) := by decide +kernel
theorem dX11_pairsOver_11 : decode cX11_pairsOver 11 = .ok (.iload_n 3, 1) := by decide +kernel
theorem dX11_pairsOver_12 : decode cX11_pairsOver 12 = .ok (.isub, 1) := by decide +kernel
theorem dX11_pairsOver_13 : decode cX11_pairsOver 13 = .ok (.iload_n 1, 1) := by decide +kernel
theorem dX11_pairsOver_14 : decode cX11_pairsOver 14 = .ok (.invokestatic 169, 3) := by decide +kernel
theorem dX11_pairsOver_17 : decode cX11_pairsOver 17 = .ok (.iload_n 3, 1) := by decide +kernel
theorem dX11_pairsOver_18 : decode cX11_pairsOver 18 = .ok (.if_icmp .ne 7, 3) := by decide +kernel
theorem dX11_pairsOver_21 : decode cX11_pairsOver 21 = .ok (.iconst 1, 1) := by decide +kernel
theorem dX11_pairsOver_22 : decode cX11_pairsOver 22 = .ok (.goto 4, 3) := by decide +kernel
theorem dX11_pairsOver_25 : decode cX11_pairsOver 25 = .ok (.iconst 0, 1) := by decide +kernel
theorem dX11_pairsOver_26 : decode cX11_pairsOver 26 = .ok (.iadd, 1) := by decide +kernel
theorem dX11_pairsOver_27 : decode cX11_pairsOver 27 = .ok (.istore_n 2, 1) := by decide +kernel
theorem dX11_pairsOver_28 : decode cX11_pairsOver 28 = .ok (.iinc 3 1, 3) := by decide +kernel
theorem dX11_pairsOver_31 : decode cX11_pairsOver 31 = .ok (.goto (-27), 3) := by decide +kernel
theorem dX11_pairsOver_34 : decode cX11_pairsOver 34 = .ok (.iload_n 1, 1) := by decide +kernel
theorem dX11_pairsOver_35 : decode cX11_pairsOver 35 = .ok (.iload_n 2, 1) := by decide +kernel
theorem dX11_pairsOver_36 : decode cX11_pairsOver 36 = .ok (.iadd, 1) := by decide +kernel
theorem dX11_pairsOver_37 : decode cX11_pairsOver 37 = .ok (.iconst 2, 1) := by decide +kernel
theorem dX11_pairsOver_38 : decode cX11_pairsOver 38 = .ok (.idiv, 1) := by decide +kernel
theorem dX11_pairsOver_39 : decode cX11_pairsOver 39 = .ok (.ireturn, 1) := by decide +kernel
theorem dX11_noted_0 : decode cX11_noted 0 = .ok (.iload_n 1, 1) := by decide +kernel
theorem dX11_noted_1 : decode cX11_noted 1 = .ok (.ifCond .lt 19, 3) := by decide +kernel
theorem dX11_noted_4 : decode cX11_noted 4 = .ok (.iload_n 1, 1) := by decide +kernel
theorem dX11_noted_5 : decode cX11_noted 5 = .ok (.bipush 99, 2) := by decide +kernel
theorem dX11_noted_7 : decode cX11_noted 7 = .ok (.if_icmp .gt 13, 3) := by decide +kernel
theorem dX11_noted_10 : decode cX11_noted 10 = .ok (.iload_n 2, 1) := by decide +kernel
theorem dX11_noted_11 : decode cX11_noted 11 = .ok (.ifCond .lt 9, 3) := by decide +kernel
theorem dX11_noted_14 : decode cX11_noted 14 = .ok (.iload_n 2, 1) := by decide +kernel
theorem dX11_noted_15 : decode cX11_noted 15 = .ok (.bipush 26, 2) := by decide +kernel
theorem dX11_noted_17 : decode cX11_noted 17 = .ok (.if_icmp .le 5, 3) := by decide +kernel
theorem dX11_noted_20 : decode cX11_noted 20 = .ok (.iconst (-1), 1) := by decide +kernel
theorem dX11_noted_21 : decode cX11_noted 21 = .ok (.ireturn, 1) := by decide +kernel
theorem dX11_noted_22 : decode cX11_noted 22 = .ok (.aload_n 0, 1) := by decide +kernel
theorem dX11_noted_23 : decode cX11_noted 23 = .ok (.getfield 96, 3) := by decide +kernel
theorem dX11_noted_26 : decode cX11_noted 26 = .ok (.iload_n 1, 1) := by decide +kernel
theorem dX11_noted_27 : decode cX11_noted 27 = .ok (.iload_n 2, 1) := by decide +kernel
theorem dX11_noted_28 : decode cX11_noted 28 = .ok (.iload_n 3, 1) := by decide +kernel
theorem dX11_noted_29 : decode cX11_noted 29 = .ok (.invokevirtual 340, 3) := by decide +kernel
theorem dX11_noted_32 : decode cX11_noted 32 = .ok (.ireturn, 1) := by decide +kernel
theorem dX11_fits_0 : decode cX11_fits 0 = .ok (.aload_n 0, 1) := by decide +kernel
theorem dX11_fits_1 : decode cX11_fits 1 = .ok (.getfield 96, 3) := by decide +kernel
theorem dX11_fits_4 : decode cX11_fits 4 = .ok (.aload_n 0, 1) := by decide +kernel
theorem dX11_fits_5 : decode cX11_fits 5 = .ok (.getfield 52, 3) := by decide +kernel
theorem dX11_fits_8 : decode cX11_fits 8 = .ok (.invokevirtual 344, 3) := by decide +kernel
theorem dX11_fits_11 : decode cX11_fits 11 = .ok (.iload_n 1, 1) := by decide +kernel
theorem dX11_fits_12 : decode cX11_fits 12 = .ok (.iconst (-1), 1) := by decide +kernel
theorem dX11_fits_13 : decode cX11_fits 13 = .ok (.if_icmp .ne 13, 3) := by decide +kernel
theorem dX11_fits_16 : decode cX11_fits 16 = .ok (.aload_n 0, 1) := by decide +kernel
theorem dX11_fits_17 : decode cX11_fits 17 = .ok (.getfield 96, 3) := by decide +kernel
theorem dX11_fits_20 : decode cX11_fits 20 = .ok (.getfield 348, 3) := by decide +kernel
theorem dX11_fits_23 : decode cX11_fits 23 = .ok (.goto 11, 3) := by decide +kernel
theorem dX11_fits_26 : decode cX11_fits 26 = .ok (.aload_n 0, 1) := by decide +kernel
theorem dX11_fits_27 : decode cX11_fits 27 = .ok (.getfield 96, 3) := by decide +kernel
theorem dX11_fits_30 : decode cX11_fits 30 = .ok (.iload_n 1, 1) := by decide +kernel
theorem dX11_fits_31 : decode cX11_fits 31 = .ok (.invokevirtual 351, 3) := by decide +kernel
theorem dX11_fits_34 : decode cX11_fits 34 = .ok (.ireturn, 1) := by decide +kernel
theorem dX11_ask_0 : decode cX11_ask 0 = .ok (.aload_n 0, 1) := by decide +kernel
theorem dX11_ask_1 : decode cX11_ask 1 = .ok (.getfield 96, 3) := by decide +kernel
theorem dX11_ask_4 : decode cX11_ask 4 = .ok (.aload_n 0, 1) := by decide +kernel
theorem dX11_ask_5 : decode cX11_ask 5 = .ok (.getfield 52, 3) := by decide +kernel
theorem dX11_ask_8 : decode cX11_ask 8 = .ok (.invokevirtual 344, 3) := by decide +kernel
theorem dX11_ask_11 : decode cX11_ask 11 = .ok (.aload_n 0, 1) := by decide +kernel
theorem dX11_ask_12 : decode cX11_ask 12 = .ok (.getfield 96, 3) := by decide +kernel
theorem dX11_ask_15 : decode cX11_ask 15 = .ok (.aload_n 0, 1) := by decide +kernel
theorem dX11_ask_16 : decode cX11_ask 16 = .ok (.getfield 52, 3) := by decide +kernel
theorem dX11_ask_19 : decode cX11_ask 19 = .ok (.invokevirtual 354, 3) := by decide +kernel
theorem dX11_ask_22 : decode cX11_ask 22 = .ok (.ireturn, 1) := by decide +kernel
theorem dX11_game_0 : decode cX11_game 0 = .ok (.aload_n 0, 1) := by decide +kernel
theorem dX11_game_1 : decode cX11_game 1 = .ok (.iload_n 1, 1) := by decide +kernel
theorem dX11_game_2 : decode cX11_game 2 = .ok (.invokevirtual 195, 3) := by decide +kernel
theorem dX11_game_5 : decode cX11_game 5 = .ok (.ifCond .eq 22, 3) := by decide +kernel
theorem dX11_game_8 : decode cX11_game 8 = .ok (.iload_n 2, 1) := by decide +kernel
theorem dX11_game_9 : decode cX11_game 9 = .ok (.iconst 1, 1) := by decide +kernel
theorem dX11_game_10 : decode cX11_game 10 = .ok (.if_icmp .lt 17, 3) := by decide +kernel
theorem dX11_game_13 : decode cX11_game 13 = .ok (.iload_n 2, 1) := by decide +kernel
theorem dX11_game_14 : decode cX11_game 14 = .ok (.iconst 4, 1) := by decide +kernel
theorem dX11_game_15 : decode cX11_game 15 = .ok (.if_icmp .gt 12, 3) := by decide +kernel
theorem dX11_game_18 : decode cX11_game 18 = .ok (.iload_n 3, 1) := by decide +kernel
theorem dX11_game_19 : decode cX11_game 19 = .ok (.ifCond .lt 8, 3) := by decide +kernel
theorem dX11_game_22 : decode cX11_game 22 = .ok (.iload_n 3, 1) := by decide +kernel
theorem dX11_game_23 : decode cX11_game 23 = .ok (.iconst 3, 1) := by decide +kernel
theorem dX11_game_24 : decode cX11_game 24 = .ok (.if_icmp .le 7, 3) := by decide +kernel
theorem dX11_game_27 : decode cX11_game 27 = .ok (.ldc_w 287, 3) := by decide +kernel
theorem dX11_game_30 : decode cX11_game 30 = .ok (.ireturn, 1) := by decide +kernel
theorem dX11_game_31 : decode cX11_game 31 = .ok (.iload 4, 2) := by decide +kernel
theorem dX11_game_33 : decode cX11_game 33 = .ok (.lookupswitch 43 #[(0, 27), (1, 35)], 27) := by decide +kernel
theorem dX11_game_60 : decode cX11_game 60 = .ok (.aload_n 0, 1) := by decide +kernel
theorem dX11_game_61 : decode cX11_game 61 = .ok (.iload_n 1, 1) := by decide +kernel
theorem dX11_game_62 : decode cX11_game 62 = .ok (.iload_n 2, 1) := by decide +kernel
theorem dX11_game_63 : decode cX11_game 63 = .ok (.iload_n 3, 1) := by decide +kernel
theorem dX11_game_64 : decode cX11_game 64 = .ok (.invokevirtual 358, 3) := by decide +kernel
theorem dX11_game_67 : decode cX11_game 67 = .ok (.ireturn, 1) := by decide +kernel
theorem dX11_game_68 : decode cX11_game 68 = .ok (.aload_n 0, 1) := by decide +kernel
theorem dX11_game_69 : decode cX11_game 69 = .ok (.iload_n 1, 1) := by decide +kernel
theorem dX11_game_70 : decode cX11_game 70 = .ok (.iload_n 2, 1) := by decide +kernel
theorem dX11_game_71 : decode cX11_game 71 = .ok (.iload_n 3, 1) := by decide +kernel
theorem dX11_game_72 : decode cX11_game 72 = .ok (.invokevirtual 362, 3) := by decide +kernel
theorem dX11_game_75 : decode cX11_game 75 = .ok (.ireturn, 1) := by decide +kernel
theorem dX11_game_76 : decode cX11_game 76 = .ok (.ldc_w 287, 3) := by decide +kernel
theorem dX11_game_79 : decode cX11_game 79 = .ok (.ireturn, 1) := by decide +kernel
theorem dX11_rests_0 : decode cX11_rests 0 = .ok (.aload_n 0, 1) := by decide +kernel
theorem dX11_rests_1 : decode cX11_rests 1 = .ok (.iload_n 1, 1) := by decide +kernel
theorem dX11_rests_2 : decode cX11_rests 2 = .ok (.invokevirtual 195, 3) := by decide +kernel
theorem dX11_rests_5 : decode cX11_rests 5 = .ok (.ifCond .ne 5, 3) := by decide +kernel
theorem dX11_rests_8 : decode cX11_rests 8 = .ok (.iconst (-1), 1) := by decide +kernel
theorem dX11_rests_9 : decode cX11_rests 9 = .ok (.ireturn, 1) := by decide +kernel
theorem dX11_rests_10 : decode cX11_rests 10 = .ok (.iconst 0, 1) := by decide +kernel
theorem dX11_rests_11 : decode cX11_rests 11 = .ok (.istore_n 3, 1) := by decide +kernel
theorem dX11_rests_12 : decode cX11_rests 12 = .ok (.iconst 1, 1) := by decide +kernel
theorem dX11_rests_13 : decode cX11_rests 13 = .ok (.istore 4, 2) := by decide +kernel
theorem dX11_rests_15 : decode cX11_rests 15 = .ok (.iload 4, 2) := by decide +kernel
theorem dX11_rests_17 : decode cX11_rests 17 = .ok (.iconst 4, 1) := by decide +kernel
theorem dX11_rests_18 : decode cX11_rests 18 = .ok (.if_icmp .gt 53, 3) := by decide +kernel
theorem dX11_rests_21 : decode cX11_rests 21 = .ok (.iconst 0, 1) := by decide +kernel
theorem dX11_rests_22 : decode cX11_rests 22 = .ok (.istore 5, 2) := by decide +kernel
theorem dX11_rests_24 : decode cX11_rests 24 = .ok (.iload 5, 2) := by decide +kernel
theorem dX11_rests_26 : decode cX11_rests 26 = .ok (.iconst 3, 1) := by decide +kernel
theorem dX11_rests_27 : decode cX11_rests 27 = .ok (.if_icmp .gt 38, 3) := by decide +kernel
theorem dX11_rests_30 : decode cX11_rests 30 = .ok (.aload_n 0, 1) := by decide +kernel
theorem dX11_rests_31 : decode cX11_rests 31 = .ok (.iload_n 1, 1) := by decide +kernel
theorem dX11_rests_32 : decode cX11_rests 32 = .ok (.iload 4, 2) := by decide +kernel
theorem dX11_rests_34 : decode cX11_rests 34 = .ok (.iload 5, 2) := by decide +kernel
theorem dX11_rests_36 : decode cX11_rests 36 = .ok (.invokevirtual 365, 3) := by decide +kernel
theorem dX11_rests_39 : decode cX11_rests 39 = .ok (.ifCond .eq 20, 3) := by decide +kernel
theorem dX11_rests_42 : decode cX11_rests 42 = .ok (.iload_n 3, 1) := by decide +kernel
theorem dX11_rests_43 : decode cX11_rests 43 = .ok (.iload_n 2, 1) := by decide +kernel
theorem dX11_rests_44 : decode cX11_rests 44 = .ok (.if_icmp .ne 12, 3) := by decide +kernel
theorem dX11_rests_47 : decode cX11_rests 47 = .ok (.bipush 10, 2) := by decide +kernel
theorem dX11_rests_49 : decode cX11_rests 49 = .ok (.iload 4, 2) := by decide +kernel
theorem dX11_rests_51 : decode cX11_rests 51 = .ok (.imul, 1) := by decide +kernel
theorem dX11_rests_52 : decode cX11_rests 52 = .ok (.iload 5, 2) := by decide +kernel
theorem dX11_rests_54 : decode cX11_rests 54 = .ok (.iadd, 1) := by decide +kernel
theorem dX11_rests_55 : decode cX11_rests 55 = .ok (.ireturn, 1) := by decide +kernel
theorem dX11_rests_56 : decode cX11_rests 56 = .ok (.iinc 3 1, 3) := by decide +kernel
theorem dX11_rests_59 : decode cX11_rests 59 = .ok (.iinc 5 1, 3) := by decide +kernel
theorem dX11_rests_62 : decode cX11_rests 62 = .ok (.goto (-38), 3) := by decide +kernel
theorem dX11_rests_65 : decode cX11_rests 65 = .ok (.iinc 4 1, 3) := by decide +kernel
theorem dX11_rests_68 : decode cX11_rests 68 = .ok (.goto (-53), 3) := by decide +kernel
theorem dX11_rests_71 : decode cX11_rests 71 = .ok (.iload_n 2, 1) := by decide +kernel
theorem dX11_rests_72 : decode cX11_rests 72 = .ok (.iconst (-1), 1) := by decide +kernel
theorem dX11_rests_73 : decode cX11_rests 73 = .ok (.if_icmp .ne 7, 3) := by decide +kernel
theorem dX11_rests_76 : decode cX11_rests 76 = .ok (.iload_n 3, 1) := by decide +kernel
theorem dX11_rests_77 : decode cX11_rests 77 = .ok (.goto 4, 3) := by decide +kernel
theorem dX11_rests_80 : decode cX11_rests 80 = .ok (.iconst (-1), 1) := by decide +kernel
theorem dX11_rests_81 : decode cX11_rests 81 = .ok (.ireturn, 1) := by decide +kernel
theorem dX11_isRest_0 : decode cX11_isRest 0 = .ok (.aload_n 0, 1) := by decide +kernel
theorem dX11_isRest_1 : decode cX11_isRest 1 = .ok (.iload_n 1, 1) := by decide +kernel
theorem dX11_isRest_2 : decode cX11_isRest 2 = .ok (.iload_n 2, 1) := by decide +kernel
theorem dX11_isRest_3 : decode cX11_isRest 3 = .ok (.iload_n 3, 1) := by decide +kernel
theorem dX11_isRest_4 : decode cX11_isRest 4 = .ok (.invokevirtual 358, 3) := by decide +kernel
theorem dX11_isRest_7 : decode cX11_isRest 7 = .ok (.istore 4, 2) := by decide +kernel
theorem dX11_isRest_9 : decode cX11_isRest 9 = .ok (.aload_n 0, 1) := by decide +kernel
theorem dX11_isRest_10 : decode cX11_isRest 10 = .ok (.iload_n 1, 1) := by decide +kernel
theorem dX11_isRest_11 : decode cX11_isRest 11 = .ok (.iload_n 2, 1) := by decide +kernel
theorem dX11_isRest_12 : decode cX11_isRest 12 = .ok (.iload_n 3, 1) := by decide +kernel
theorem dX11_isRest_13 : decode cX11_isRest 13 = .ok (.invokevirtual 362, 3) := by decide +kernel
theorem dX11_isRest_16 : decode cX11_isRest 16 = .ok (.istore 5, 2) := by decide +kernel
theorem dX11_isRest_18 : decode cX11_isRest 18 = .ok (.iconst 1, 1) := by decide +kernel
theorem dX11_isRest_19 : decode cX11_isRest 19 = .ok (.istore 6, 2) := by decide +kernel
theorem dX11_isRest_21 : decode cX11_isRest 21 = .ok (.iconst 0, 1) := by decide +kernel
theorem dX11_isRest_22 : decode cX11_isRest 22 = .ok (.istore 7, 2) := by decide +kernel
theorem dX11_isRest_24 : decode cX11_isRest 24 = .ok (.iload 7, 2) := by decide +kernel
theorem dX11_isRest_26 : decode cX11_isRest 26 = .ok (.iconst 4, 1) := by decide +kernel
theorem dX11_isRest_27 : decode cX11_isRest 27 = .ok (.if_icmp .ge 49, 3) := by decide +kernel
theorem dX11_isRest_30 : decode cX11_isRest 30 = .ok (.iload 6, 2) := by decide +kernel
theorem dX11_isRest_32 : decode cX11_isRest 32 = .ok (.ifCond .eq 35, 3) := by decide +kernel
theorem dX11_isRest_35 : decode cX11_isRest 35 = .ok (.aload_n 0, 1) := by decide +kernel
theorem dX11_isRest_36 : decode cX11_isRest 36 = .ok (.iload_n 1, 1) := by decide +kernel
theorem dX11_isRest_37 : decode cX11_isRest 37 = .ok (.iload 7, 2) := by decide +kernel
theorem dX11_isRest_39 : decode cX11_isRest 39 = .ok (.iconst 1, 1) := by decide +kernel
theorem dX11_isRest_40 : decode cX11_isRest 40 = .ok (.iadd, 1) := by decide +kernel
theorem dX11_isRest_41 : decode cX11_isRest 41 = .ok (.iload_n 3, 1) := by decide +kernel
theorem dX11_isRest_42 : decode cX11_isRest 42 = .ok (.invokevirtual 358, 3) := by decide +kernel
theorem dX11_isRest_45 : decode cX11_isRest 45 = .ok (.iload 4, 2) := by decide +kernel
theorem dX11_isRest_47 : decode cX11_isRest 47 = .ok (.if_icmp .gt 20, 3) := by decide +kernel
theorem dX11_isRest_50 : decode cX11_isRest 50 = .ok (.aload_n 0, 1) := by decide +kernel
theorem dX11_isRest_51 : decode cX11_isRest 51 = .ok (.iload_n 1, 1) := by decide +kernel
theorem dX11_isRest_52 : decode cX11_isRest 52 = .ok (.iload_n 2, 1) := by decide +kernel
theorem dX11_isRest_53 : decode cX11_isRest 53 = .ok (.iload 7, 2) := by decide +kernel
theorem dX11_isRest_55 : decode cX11_isRest 55 = .ok (.invokevirtual 362, 3) := by decide +kernel
theorem dX11_isRest_58 : decode cX11_isRest 58 = .ok (.iload 5, 2) := by decide +kernel
theorem dX11_isRest_60 : decode cX11_isRest 60 = .ok (.if_icmp .gt 7, 3) := by decide +kernel
theorem dX11_isRest_63 : decode cX11_isRest 63 = .ok (.iconst 1, 1) := by decide +kernel
theorem dX11_isRest_64 : decode cX11_isRest 64 = .ok (.goto 4, 3) := by decide +kernel
theorem dX11_isRest_67 : decode cX11_isRest 67 = .ok (.iconst 0, 1) := by decide +kernel
theorem dX11_isRest_68 : decode cX11_isRest 68 = .ok (.istore 6, 2) := by decide +kernel
theorem dX11_isRest_70 : decode cX11_isRest 70 = .ok (.iinc 7 1, 3) := by decide +kernel
theorem dX11_isRest_73 : decode cX11_isRest 73 = .ok (.goto (-49), 3) := by decide +kernel
theorem dX11_isRest_76 : decode cX11_isRest 76 = .ok (.iload 6, 2) := by decide +kernel
theorem dX11_isRest_78 : decode cX11_isRest 78 = .ok (.ireturn, 1) := by decide +kernel
theorem dX11_lookerHas_0 : decode cX11_lookerHas 0 = .ok (.iconst 2, 1) := by decide +kernel
theorem dX11_lookerHas_1 : decode cX11_lookerHas 1 = .ok (.aload_n 0, 1) := by decide +kernel
theorem dX11_lookerHas_2 : decode cX11_lookerHas 2 = .ok (.aload_n 0, 1) := by decide +kernel
theorem dX11_lookerHas_3 : decode cX11_lookerHas 3 = .ok (.getfield 75, 3) := by decide +kernel
theorem dX11_lookerHas_6 : decode cX11_lookerHas 6 = .ok (.getfield 153, 3) := by decide +kernel
theorem dX11_lookerHas_9 : decode cX11_lookerHas 9 = .ok (.iload_n 1, 1) := by decide +kernel
theorem dX11_lookerHas_10 : decode cX11_lookerHas 10 = .ok (.aaload, 1) := by decide +kernel
theorem dX11_lookerHas_11 : decode cX11_lookerHas 11 = .ok (.iload_n 2, 1) := by decide +kernel
theorem dX11_lookerHas_12 : decode cX11_lookerHas 12 = .ok (.iload_n 3, 1) := by decide +kernel
theorem dX11_lookerHas_13 : decode cX11_lookerHas 13 = .ok (.imul, 1) := by decide +kernel
theorem dX11_lookerHas_14 : decode cX11_lookerHas 14 = .ok (.invokevirtual 369, 3) := by decide +kernel
theorem dX11_lookerHas_17 : decode cX11_lookerHas 17 = .ok (.imul, 1) := by decide +kernel
theorem dX11_lookerHas_18 : decode cX11_lookerHas 18 = .ok (.iload_n 2, 1) := by decide +kernel
theorem dX11_lookerHas_19 : decode cX11_lookerHas 19 = .ok (.isub, 1) := by decide +kernel
theorem dX11_lookerHas_20 : decode cX11_lookerHas 20 = .ok (.ireturn, 1) := by decide +kernel
theorem dX11_turnerHas_0 : decode cX11_turnerHas 0 = .ok (.bipush 9, 2) := by decide +kernel
theorem dX11_turnerHas_2 : decode cX11_turnerHas 2 = .ok (.aload_n 0, 1) := by decide +kernel
theorem dX11_turnerHas_3 : decode cX11_turnerHas 3 = .ok (.aload_n 0, 1) := by decide +kernel
theorem dX11_turnerHas_4 : decode cX11_turnerHas 4 = .ok (.getfield 75, 3) := by decide +kernel
theorem dX11_turnerHas_7 : decode cX11_turnerHas 7 = .ok (.getfield 153, 3) := by decide +kernel
theorem dX11_turnerHas_10 : decode cX11_turnerHas 10 = .ok (.iload_n 1, 1) := by decide +kernel
theorem dX11_turnerHas_11 : decode cX11_turnerHas 11 = .ok (.aaload, 1) := by decide +kernel
theorem dX11_turnerHas_12 : decode cX11_turnerHas 12 = .ok (.iload_n 2, 1) := by decide +kernel
theorem dX11_turnerHas_13 : decode cX11_turnerHas 13 = .ok (.iload_n 3, 1) := by decide +kernel
theorem dX11_turnerHas_14 : decode cX11_turnerHas 14 = .ok (.imul, 1) := by decide +kernel
theorem dX11_turnerHas_15 : decode cX11_turnerHas 15 = .ok (.invokevirtual 369, 3) := by decide +kernel
theorem dX11_turnerHas_18 : decode cX11_turnerHas 18 = .ok (.isub, 1) := by decide +kernel
theorem dX11_turnerHas_19 : decode cX11_turnerHas 19 = .ok (.iload_n 3, 1) := by decide +kernel
theorem dX11_turnerHas_20 : decode cX11_turnerHas 20 = .ok (.iadd, 1) := by decide +kernel
theorem dX11_turnerHas_21 : decode cX11_turnerHas 21 = .ok (.ireturn, 1) := by decide +kernel
theorem dX11_unlikeSeen_0 : decode cX11_unlikeSeen 0 = .ok (.aload_n 0, 1) := by decide +kernel
theorem dX11_unlikeSeen_1 : decode cX11_unlikeSeen 1 = .ok (.aload_n 1, 1) := by decide +kernel
theorem dX11_unlikeSeen_2 : decode cX11_unlikeSeen 2 = .ok (.invokevirtual 162, 3) := by decide +kernel
theorem dX11_unlikeSeen_5 : decode cX11_unlikeSeen 5 = .ok (.astore_n 3, 1) := by decide +kernel
theorem dX11_unlikeSeen_6 : decode cX11_unlikeSeen 6 = .ok (.iconst 0, 1) := by decide +kernel
theorem dX11_unlikeSeen_7 : decode cX11_unlikeSeen 7 = .ok (.istore 4, 2) := by decide +kernel
theorem dX11_unlikeSeen_9 : decode cX11_unlikeSeen 9 = .ok (.iconst 0, 1) := by decide +kernel
theorem dX11_unlikeSeen_10 : decode cX11_unlikeSeen 10 = .ok (.istore 5, 2) := by decide +kernel
theorem dX11_unlikeSeen_12 : decode cX11_unlikeSeen 12 = .ok (.iload 5, 2) := by decide +kernel
theorem dX11_unlikeSeen_14 : decode cX11_unlikeSeen 14 = .ok (.iconst 5, 1) := by decide +kernel
theorem dX11_unlikeSeen_15 : decode cX11_unlikeSeen 15 = .ok (.if_icmp .gt 29, 3) := by decide +kernel
theorem dX11_unlikeSeen_18 : decode cX11_unlikeSeen 18 = .ok (.iload 4, 2) := by decide +kernel
theorem dX11_unlikeSeen_20 : decode cX11_unlikeSeen 20 = .ok (.iconst 1, 1) := by decide +kernel
theorem dX11_unlikeSeen_21 : decode cX11_unlikeSeen 21 = .ok (.aload_n 3, 1) := by decide +kernel
theorem dX11_unlikeSeen_22 : decode cX11_unlikeSeen 22 = .ok (.aload_n 1, 1) := by decide +kernel
theorem dX11_unlikeSeen_23 : decode cX11_unlikeSeen 23 = .ok (.getfield 157, 3) := by decide +kernel
theorem dX11_unlikeSeen_26 : decode cX11_unlikeSeen 26 = .ok (.iload 5, 2) := by decide +kernel
theorem dX11_unlikeSeen_28 : decode cX11_unlikeSeen 28 = .ok (.iload_n 2, 1) := by decide +kernel
theorem dX11_unlikeSeen_29 : decode cX11_unlikeSeen 29 = .ok (.imul, 1) := by decide +kernel
theorem dX11_unlikeSeen_30 : decode cX11_unlikeSeen 30 = .ok (.iadd, 1) := by decide +kernel
theorem dX11_unlikeSeen_31 : decode cX11_unlikeSeen 31 = .ok (.invokevirtual 224, 3) := by decide +kernel
theorem dX11_unlikeSeen_34 : decode cX11_unlikeSeen 34 = .ok (.ishl, 1) := by decide +kernel
theorem dX11_unlikeSeen_35 : decode cX11_unlikeSeen 35 = .ok (.ior, 1) := by decide +kernel
theorem dX11_unlikeSeen_36 : decode cX11_unlikeSeen 36 = .ok (.istore 4, 2) := by decide +kernel
theorem dX11_unlikeSeen_38 : decode cX11_unlikeSeen 38 = .ok (.iinc 5 1, 3) := by decide +kernel
theorem dX11_unlikeSeen_41 : decode cX11_unlikeSeen 41 = .ok (.goto (-29), 3) := by decide +kernel
theorem dX11_unlikeSeen_44 : decode cX11_unlikeSeen 44 = .ok (.iload 4, 2) := by decide +kernel
theorem dX11_unlikeSeen_46 : decode cX11_unlikeSeen 46 = .ok (.invokestatic 373, 3) := by decide +kernel
theorem dX11_unlikeSeen_49 : decode cX11_unlikeSeen 49 = .ok (.invokestatic 376, 3) := by decide +kernel
theorem dX11_unlikeSeen_52 : decode cX11_unlikeSeen 52 = .ok (.ireturn, 1) := by decide +kernel
theorem dX11_withoutBlank_0 : decode cX11_withoutBlank 0 = .ok (.iload_n 0, 1) := by decide +kernel
theorem dX11_withoutBlank_1 : decode cX11_withoutBlank 1 = .ok (.ldc_w 381, 3) := by decide +kernel
theorem dX11_withoutBlank_4 : decode cX11_withoutBlank 4 = .ok (.iand, 1) := by decide +kernel
theorem dX11_withoutBlank_5 : decode cX11_withoutBlank 5 = .ok (.ireturn, 1) := by decide +kernel
theorem dX11_odds_0 : decode cX11_odds 0 = .ok (.aload_n 0, 1) := by decide +kernel
theorem dX11_odds_1 : decode cX11_odds 1 = .ok (.iload_n 1, 1) := by decide +kernel
theorem dX11_odds_2 : decode cX11_odds 2 = .ok (.invokevirtual 195, 3) := by decide +kernel
theorem dX11_odds_5 : decode cX11_odds 5 = .ok (.ifCond .eq 35, 3) := by decide +kernel
theorem dX11_odds_8 : decode cX11_odds 8 = .ok (.iload_n 2, 1) := by decide +kernel
theorem dX11_odds_9 : decode cX11_odds 9 = .ok (.ifCond .lt 31, 3) := by decide +kernel
theorem dX11_odds_12 : decode cX11_odds 12 = .ok (.iload_n 2, 1) := by decide +kernel
theorem dX11_odds_13 : decode cX11_odds 13 = .ok (.bipush 8, 2) := by decide +kernel
theorem dX11_odds_15 : decode cX11_odds 15 = .ok (.if_icmp .gt 25, 3) := by decide +kernel
theorem dX11_odds_18 : decode cX11_odds 18 = .ok (.iload_n 3, 1) := by decide +kernel
theorem dX11_odds_19 : decode cX11_odds 19 = .ok (.ifCond .lt 21, 3) := by decide +kernel
theorem dX11_odds_22 : decode cX11_odds 22 = .ok (.iload_n 3, 1) := by decide +kernel
theorem dX11_odds_23 : decode cX11_odds 23 = .ok (.bipush 100, 2) := by decide +kernel
theorem dX11_odds_25 : decode cX11_odds 25 = .ok (.if_icmp .gt 15, 3) := by decide +kernel
theorem dX11_odds_28 : decode cX11_odds 28 = .ok (.iload 4, 2) := by decide +kernel
theorem dX11_odds_30 : decode cX11_odds 30 = .ok (.ifCond .lt 10, 3) := by decide +kernel
theorem dX11_odds_33 : decode cX11_odds 33 = .ok (.iload 4, 2) := by decide +kernel
theorem dX11_odds_35 : decode cX11_odds 35 = .ok (.bipush 26, 2) := by decide +kernel
theorem dX11_odds_37 : decode cX11_odds 37 = .ok (.if_icmp .le 5, 3) := by decide +kernel
theorem dX11_odds_40 : decode cX11_odds 40 = .ok (.iconst (-1), 1) := by decide +kernel
theorem dX11_odds_41 : decode cX11_odds 41 = .ok (.ireturn, 1) := by decide +kernel
theorem dX11_odds_42 : decode cX11_odds 42 = .ok (.aload_n 0, 1) := by decide +kernel
theorem dX11_odds_43 : decode cX11_odds 43 = .ok (.iload_n 1, 1) := by decide +kernel
theorem dX11_odds_44 : decode cX11_odds 44 = .ok (.invokevirtual 300, 3) := by decide +kernel
theorem dX11_odds_47 : decode cX11_odds 47 = .ok (.iload_n 2, 1) := by decide +kernel
theorem dX11_odds_48 : decode cX11_odds 48 = .ok (.iload_n 3, 1) := by decide +kernel
theorem dX11_odds_49 : decode cX11_odds 49 = .ok (.iload 4, 2) := by decide +kernel
theorem dX11_odds_51 : decode cX11_odds 51 = .ok (.invokevirtual 382, 3) := by decide +kernel
theorem dX11_odds_54 : decode cX11_odds 54 = .ok (.ireturn, 1) := by decide +kernel
theorem dX11_shares_0 : decode cX11_shares 0 = .ok (.aload_n 0, 1) := by decide +kernel
theorem dX11_shares_1 : decode cX11_shares 1 = .ok (.iload_n 1, 1) := by decide +kernel
theorem dX11_shares_2 : decode cX11_shares 2 = .ok (.invokevirtual 195, 3) := by decide +kernel
theorem dX11_shares_5 : decode cX11_shares 5 = .ok (.ifCond .eq 14, 3) := by decide +kernel
theorem dX11_shares_8 : decode cX11_shares 8 = .ok (.iload_n 2, 1) := by decide +kernel
theorem dX11_shares_9 : decode cX11_shares 9 = .ok (.ifCond .lt 10, 3) := by decide +kernel
theorem dX11_shares_12 : decode cX11_shares 12 = .ok (.iload_n 2, 1) := by decide +kernel
theorem dX11_shares_13 : decode cX11_shares 13 = .ok (.sipush 999, 3) := by decide +kernel
theorem dX11_shares_16 : decode cX11_shares 16 = .ok (.if_icmp .le 5, 3) := by decide +kernel
theorem dX11_shares_19 : decode cX11_shares 19 = .ok (.iconst (-1), 1) := by decide +kernel
theorem dX11_shares_20 : decode cX11_shares 20 = .ok (.ireturn, 1) := by decide +kernel
theorem dX11_shares_21 : decode cX11_shares 21 = .ok (.iconst 0, 1) := by decide +kernel
theorem dX11_shares_22 : decode cX11_shares 22 = .ok (.istore_n 3, 1) := by decide +kernel
theorem dX11_shares_23 : decode cX11_shares 23 = .ok (.iconst 0, 1) := by decide +kernel
theorem dX11_shares_24 : decode cX11_shares 24 = .ok (.istore 4, 2) := by decide +kernel
theorem dX11_shares_26 : decode cX11_shares 26 = .ok (.iload 4, 2) := by decide +kernel
theorem dX11_shares_28 : decode cX11_shares 28 = .ok (.aload_n 0, 1) := by decide +kernel
theorem dX11_shares_29 : decode cX11_shares 29 = .ok (.getfield 75, 3) := by decide +kernel
theorem dX11_shares_32 : decode cX11_shares 32 = .ok (.getfield 150, 3) := by decide +kernel
theorem dX11_shares_35 : decode cX11_shares 35 = .ok (.if_icmp .ge 25, 3) := by decide +kernel
theorem dX11_shares_38 : decode cX11_shares 38 = .ok (.iload_n 3, 1) := by decide +kernel
theorem dX11_shares_39 : decode cX11_shares 39 = .ok (.aload_n 0, 1) := by decide +kernel
theorem dX11_shares_40 : decode cX11_shares 40 = .ok (.getfield 75, 3) := by decide +kernel
theorem dX11_shares_43 : decode cX11_shares 43 = .ok (.getfield 153, 3) := by decide +kernel
theorem dX11_shares_46 : decode cX11_shares 46 = .ok (.iload 4, 2) := by decide +kernel
theorem dX11_shares_48 : decode cX11_shares 48 = .ok (.aaload, 1) := by decide +kernel
theorem dX11_shares_49 : decode cX11_shares 49 = .ok (.getfield 206, 3) := by decide +kernel
theorem dX11_shares_52 : decode cX11_shares 52 = .ok (.iadd, 1) := by decide +kernel
theorem dX11_shares_53 : decode cX11_shares 53 = .ok (.istore_n 3, 1) := by decide +kernel
theorem dX11_shares_54 : decode cX11_shares 54 = .ok (.iinc 4 1, 3) := by decide +kernel
theorem dX11_shares_57 : decode cX11_shares 57 = .ok (.goto (-31), 3) := by decide +kernel
theorem dX11_shares_60 : decode cX11_shares 60 = .ok (.iload_n 3, 1) := by decide +kernel
theorem dX11_shares_61 : decode cX11_shares 61 = .ok (.iconst 1, 1) := by decide +kernel
theorem dX11_shares_62 : decode cX11_shares 62 = .ok (.if_icmp .ge 7, 3) := by decide +kernel
theorem dX11_shares_65 : decode cX11_shares 65 = .ok (.iconst 0, 1) := by decide +kernel
theorem dX11_shares_66 : decode cX11_shares 66 = .ok (.goto 19, 3) := by decide +kernel
theorem dX11_shares_69 : decode cX11_shares 69 = .ok (.iload_n 2, 1) := by decide +kernel
theorem dX11_shares_70 : decode cX11_shares 70 = .ok (.aload_n 0, 1) := by decide +kernel
theorem dX11_shares_71 : decode cX11_shares 71 = .ok (.getfield 75, 3) := by decide +kernel
theorem dX11_shares_74 : decode cX11_shares 74 = .ok (.getfield 153, 3) := by decide +kernel
theorem dX11_shares_77 : decode cX11_shares 77 = .ok (.iload_n 1, 1) := by decide +kernel
theorem dX11_shares_78 : decode cX11_shares 78 = .ok (.aaload, 1) := by decide +kernel
theorem dX11_shares_79 : decode cX11_shares 79 = .ok (.getfield 206, 3) := by decide +kernel
theorem dX11_shares_82 : decode cX11_shares 82 = .ok (.imul, 1) := by decide +kernel
theorem dX11_shares_83 : decode cX11_shares 83 = .ok (.iload_n 3, 1) := by decide +kernel
theorem dX11_shares_84 : decode cX11_shares 84 = .ok (.idiv, 1) := by decide +kernel
theorem dX11_shares_85 : decode cX11_shares 85 = .ok (.ireturn, 1) := by decide +kernel
theorem dX11_most_0 : decode cX11_most 0 = .ok (.aload_n 0, 1) := by decide +kernel
theorem dX11_most_1 : decode cX11_most 1 = .ok (.invokevirtual 183, 3) := by decide +kernel
theorem dX11_most_4 : decode cX11_most 4 = .ok (.ifCond .ne 5, 3) := by decide +kernel
theorem dX11_most_7 : decode cX11_most 7 = .ok (.iconst (-1), 1) := by decide +kernel
theorem dX11_most_8 : decode cX11_most 8 = .ok (.ireturn, 1) := by decide +kernel
theorem dX11_most_9 : decode cX11_most 9 = .ok (.iload_n 1, 1) := by decide +kernel
theorem dX11_most_10 : decode cX11_most 10 = .ok (.tableswitch 125 0 9 #[54, 59, 64, 69, 74, 79, 84, 89, 94, 99], 54) := by decide +kernel
theorem dX11_most_64 : decode cX11_most 64 = .ok (.aload_n 0, 1) := by decide +kernel
theorem dX11_most_65 : decode cX11_most 65 = .ok (.invokevirtual 385, 3) := by decide +kernel
theorem dX11_most_68 : decode cX11_most 68 = .ok (.ireturn, 1) := by decide +kernel
theorem dX11_most_69 : decode cX11_most 69 = .ok (.aload_n 0, 1) := by decide +kernel
theorem dX11_most_70 : decode cX11_most 70 = .ok (.invokevirtual 388, 3) := by decide +kernel
theorem dX11_most_73 : decode cX11_most 73 = .ok (.ireturn, 1) := by decide +kernel
theorem dX11_most_74 : decode cX11_most 74 = .ok (.aload_n 0, 1) := by decide +kernel
theorem dX11_most_75 : decode cX11_most 75 = .ok (.invokevirtual 391, 3) := by decide +kernel
theorem dX11_most_78 : decode cX11_most 78 = .ok (.ireturn, 1) := by decide +kernel
theorem dX11_most_79 : decode cX11_most 79 = .ok (.aload_n 0, 1) := by decide +kernel
theorem dX11_most_80 : decode cX11_most 80 = .ok (.invokevirtual 394, 3) := by decide +kernel
theorem dX11_most_83 : decode cX11_most 83 = .ok (.ireturn, 1) := by decide +kernel
theorem dX11_most_84 : decode cX11_most 84 = .ok (.aload_n 0, 1) := by decide +kernel
theorem dX11_most_85 : decode cX11_most 85 = .ok (.invokevirtual 397, 3) := by decide +kernel
theorem dX11_most_88 : decode cX11_most 88 = .ok (.ireturn, 1) := by decide +kernel
theorem dX11_most_89 : decode cX11_most 89 = .ok (.aload_n 0, 1) := by decide +kernel
theorem dX11_most_90 : decode cX11_most 90 = .ok (.invokevirtual 400, 3) := by decide +kernel
theorem dX11_most_93 : decode cX11_most 93 = .ok (.ireturn, 1) := by decide +kernel
theorem dX11_most_94 : decode cX11_most 94 = .ok (.aload_n 0, 1) := by decide +kernel
theorem dX11_most_95 : decode cX11_most 95 = .ok (.invokevirtual 403, 3) := by decide +kernel
theorem dX11_most_98 : decode cX11_most 98 = .ok (.ireturn, 1) := by decide +kernel
theorem dX11_most_99 : decode cX11_most 99 = .ok (.aload_n 0, 1) := by decide +kernel
theorem dX11_most_100 : decode cX11_most 100 = .ok (.invokevirtual 406, 3) := by decide +kernel
theorem dX11_most_103 : decode cX11_most 103 = .ok (.ireturn, 1) := by decide +kernel
theorem dX11_most_104 : decode cX11_most 104 = .ok (.aload_n 0, 1) := by decide +kernel
theorem dX11_most_105 : decode cX11_most 105 = .ok (.invokevirtual 409, 3) := by decide +kernel
theorem dX11_most_108 : decode cX11_most 108 = .ok (.ireturn, 1) := by decide +kernel
theorem dX11_most_109 : decode cX11_most 109 = .ok (.aload_n 0, 1) := by decide +kernel
theorem dX11_most_110 : decode cX11_most 110 = .ok (.getfield 75, 3) := by decide +kernel
theorem dX11_most_113 : decode cX11_most 113 = .ok (.getfield 186, 3) := by decide +kernel
theorem dX11_most_116 : decode cX11_most 116 = .ok (.aload_n 0, 1) := by decide +kernel
theorem dX11_most_117 : decode cX11_most 117 = .ok (.getfield 75, 3) := by decide +kernel
theorem dX11_most_120 : decode cX11_most 120 = .ok (.getfield 230, 3) := by decide +kernel
theorem dX11_most_123 : decode cX11_most 123 = .ok (.aload_n 0, 1) := by decide +kernel
theorem dX11_most_124 : decode cX11_most 124 = .ok (.getfield 75, 3) := by decide +kernel
theorem dX11_most_127 : decode cX11_most 127 = .ok (.getfield 186, 3) := by decide +kernel
theorem dX11_most_130 : decode cX11_most 130 = .ok (.invokestatic 169, 3) := by decide +kernel
theorem dX11_most_133 : decode cX11_most 133 = .ok (.isub, 1) := by decide +kernel
theorem dX11_most_134 : decode cX11_most 134 = .ok (.ireturn, 1) := by decide +kernel
theorem dX11_most_135 : decode cX11_most 135 = .ok (.iconst (-1), 1) := by decide +kernel
theorem dX11_most_136 : decode cX11_most 136 = .ok (.ireturn, 1) := by decide +kernel
theorem dX11_fastest_0 : decode cX11_fastest 0 = .ok (.iconst 0, 1) := by decide +kernel
theorem dX11_fastest_1 : decode cX11_fastest 1 = .ok (.istore_n 1, 1) := by decide +kernel
theorem dX11_fastest_2 : decode cX11_fastest 2 = .ok (.iconst 1, 1) := by decide +kernel
theorem dX11_fastest_3 : decode cX11_fastest 3 = .ok (.istore_n 2, 1) := by decide +kernel
theorem dX11_fastest_4 : decode cX11_fastest 4 = .ok (.iload_n 2, 1) := by decide +kernel
theorem dX11_fastest_5 : decode cX11_fastest 5 = .ok (.aload_n 0, 1) := by decide +kernel
theorem dX11_fastest_6 : decode cX11_fastest 6 = .ok (.getfield 75, 3) := by decide +kernel
theorem dX11_fastest_9 : decode cX11_fastest 9 = .ok (.getfield 150, 3) := by decide +kernel
theorem dX11_fastest_12 : decode cX11_fastest 12 = .ok (.if_icmp .ge 42, 3) := by decide +kernel
theorem dX11_fastest_15 : decode cX11_fastest 15 = .ok (.aload_n 0, 1) := by decide +kernel
theorem dX11_fastest_16 : decode cX11_fastest 16 = .ok (.getfield 75, 3) := by decide +kernel
theorem dX11_fastest_19 : decode cX11_fastest 19 = .ok (.getfield 153, 3) := by decide +kernel
theorem dX11_fastest_22 : decode cX11_fastest 22 = .ok (.iload_n 2, 1) := by decide +kernel
theorem dX11_fastest_23 : decode cX11_fastest 23 = .ok (.aaload, 1) := by decide +kernel
theorem dX11_fastest_24 : decode cX11_fastest 24 = .ok (.getfield 206, 3) := by decide +kernel
theorem dX11_fastest_27 : decode cX11_fastest 27 = .ok (.aload_n 0, 1) := by decide +kernel
theorem dX11_fastest_28 : decode cX11_fastest 28 = .ok (.getfield 75, 3) := by decide +kernel
theorem dX11_fastest_31 : decode cX11_fastest 31 = .ok (.getfield 153, 3) := by decide +kernel
theorem dX11_fastest_34 : decode cX11_fastest 34 = .ok (.iload_n 1, 1) := by decide +kernel
theorem dX11_fastest_35 : decode cX11_fastest 35 = .ok (.aaload, 1) := by decide +kernel
theorem dX11_fastest_36 : decode cX11_fastest 36 = .ok (.getfield 206, 3) := by decide +kernel
theorem dX11_fastest_39 : decode cX11_fastest 39 = .ok (.if_icmp .le 7, 3) := by decide +kernel
theorem dX11_fastest_42 : decode cX11_fastest 42 = .ok (.iload_n 2, 1) := by decide +kernel
theorem dX11_fastest_43 : decode cX11_fastest 43 = .ok (.goto 4, 3) := by decide +kernel
theorem dX11_fastest_46 : decode cX11_fastest 46 = .ok (.iload_n 1, 1) := by decide +kernel
theorem dX11_fastest_47 : decode cX11_fastest 47 = .ok (.istore_n 1, 1) := by decide +kernel
theorem dX11_fastest_48 : decode cX11_fastest 48 = .ok (.iinc 2 1, 3) := by decide +kernel
theorem dX11_fastest_51 : decode cX11_fastest 51 = .ok (.goto (-47), 3) := by decide +kernel
theorem dX11_fastest_54 : decode cX11_fastest 54 = .ok (.iload_n 1, 1) := by decide +kernel
theorem dX11_fastest_55 : decode cX11_fastest 55 = .ok (.ireturn, 1) := by decide +kernel
theorem dX11_longest_0 : decode cX11_longest 0 = .ok (.iconst 0, 1) := by decide +kernel
theorem dX11_longest_1 : decode cX11_longest 1 = .ok (.istore_n 1, 1) := by decide +kernel
theorem dX11_longest_2 : decode cX11_longest 2 = .ok (.iconst 1, 1) := by decide +kernel
theorem dX11_longest_3 : decode cX11_longest 3 = .ok (.istore_n 2, 1) := by decide +kernel
theorem dX11_longest_4 : decode cX11_longest 4 = .ok (.iload_n 2, 1) := by decide +kernel
theorem dX11_longest_5 : decode cX11_longest 5 = .ok (.aload_n 0, 1) := by decide +kernel
theorem dX11_longest_6 : decode cX11_longest 6 = .ok (.getfield 75, 3) := by decide +kernel
theorem dX11_longest_9 : decode cX11_longest 9 = .ok (.getfield 150, 3) := by decide +kernel
theorem dX11_longest_12 : decode cX11_longest 12 = .ok (.if_icmp .ge 50, 3) := by decide +kernel
theorem dX11_longest_15 : decode cX11_longest 15 = .ok (.aload_n 0, 1) := by decide +kernel
theorem dX11_longest_16 : decode cX11_longest 16 = .ok (.aload_n 0, 1) := by decide +kernel
theorem dX11_longest_17 : decode cX11_longest 17 = .ok (.getfield 75, 3) := by decide +kernel
theorem dX11_longest_20 : decode cX11_longest 20 = .ok (.getfield 153, 3) := by decide +kernel
theorem dX11_longest_23 : decode cX11_longest 23 = .ok (.iload_n 2, 1) := by decide +kernel
theorem dX11_longest_24 : decode cX11_longest 24 = .ok (.aaload, 1) := by decide +kernel
theorem dX11_longest_25 : decode cX11_longest 25 = .ok (.invokevirtual 162, 3) := by decide +kernel
theorem dX11_longest_28 : decode cX11_longest 28 = .ok (.invokevirtual 166, 3) := by decide +kernel
theorem dX11_longest_31 : decode cX11_longest 31 = .ok (.aload_n 0, 1) := by decide +kernel
theorem dX11_longest_32 : decode cX11_longest 32 = .ok (.aload_n 0, 1) := by decide +kernel
theorem dX11_longest_33 : decode cX11_longest 33 = .ok (.getfield 75, 3) := by decide +kernel
theorem dX11_longest_36 : decode cX11_longest 36 = .ok (.getfield 153, 3) := by decide +kernel
theorem dX11_longest_39 : decode cX11_longest 39 = .ok (.iload_n 1, 1) := by decide +kernel
theorem dX11_longest_40 : decode cX11_longest 40 = .ok (.aaload, 1) := by decide +kernel
theorem dX11_longest_41 : decode cX11_longest 41 = .ok (.invokevirtual 162, 3) := by decide +kernel
theorem dX11_longest_44 : decode cX11_longest 44 = .ok (.invokevirtual 166, 3) := by decide +kernel
theorem dX11_longest_47 : decode cX11_longest 47 = .ok (.if_icmp .le 7, 3) := by decide +kernel
theorem dX11_longest_50 : decode cX11_longest 50 = .ok (.iload_n 2, 1) := by decide +kernel
theorem dX11_longest_51 : decode cX11_longest 51 = .ok (.goto 4, 3) := by decide +kernel
theorem dX11_longest_54 : decode cX11_longest 54 = .ok (.iload_n 1, 1) := by decide +kernel
theorem dX11_longest_55 : decode cX11_longest 55 = .ok (.istore_n 1, 1) := by decide +kernel
theorem dX11_longest_56 : decode cX11_longest 56 = .ok (.iinc 2 1, 3) := by decide +kernel
theorem dX11_longest_59 : decode cX11_longest 59 = .ok (.goto (-55), 3) := by decide +kernel
theorem dX11_longest_62 : decode cX11_longest 62 = .ok (.iload_n 1, 1) := by decide +kernel
theorem dX11_longest_63 : decode cX11_longest 63 = .ok (.ireturn, 1) := by decide +kernel
theorem dX11_commonest_0 : decode cX11_commonest 0 = .ok (.iconst (-1), 1) := by decide +kernel
theorem dX11_commonest_1 : decode cX11_commonest 1 = .ok (.istore_n 1, 1) := by decide +kernel
theorem dX11_commonest_2 : decode cX11_commonest 2 = .ok (.iconst 0, 1) := by decide +kernel
theorem dX11_commonest_3 : decode cX11_commonest 3 = .ok (.istore_n 2, 1) := by decide +kernel
theorem dX11_commonest_4 : decode cX11_commonest 4 = .ok (.iconst 0, 1) := by decide +kernel
theorem dX11_commonest_5 : decode cX11_commonest 5 = .ok (.istore_n 3, 1) := by decide +kernel
theorem dX11_commonest_6 : decode cX11_commonest 6 = .ok (.iload_n 3, 1) := by decide +kernel
theorem dX11_commonest_7 : decode cX11_commonest 7 = .ok (.bipush 26, 2) := by decide +kernel
theorem dX11_commonest_9 : decode cX11_commonest 9 = .ok (.if_icmp .ge 74, 3) := by decide +kernel
theorem dX11_commonest_12 : decode cX11_commonest 12 = .ok (.iconst 0, 1) := by decide +kernel
theorem dX11_commonest_13 : decode cX11_commonest 13 = .ok (.istore 4, 2) := by decide +kernel
theorem dX11_commonest_15 : decode cX11_commonest 15 = .ok (.iconst 0, 1) := by decide +kernel
theorem dX11_commonest_16 : decode cX11_commonest 16 = .ok (.istore 5, 2) := by decide +kernel
theorem dX11_commonest_18 : decode cX11_commonest 18 = .ok (.iload 5, 2) := by decide +kernel
theorem dX11_commonest_20 : decode cX11_commonest 20 = .ok (.aload_n 0, 1) := by decide +kernel
theorem dX11_commonest_21 : decode cX11_commonest 21 = .ok (.getfield 56, 3) := by decide +kernel
theorem dX11_commonest_24 : decode cX11_commonest 24 = .ok (.if_icmp .ge 42, 3) := by decide +kernel
theorem dX11_commonest_27 : decode cX11_commonest 27 = .ok (.iload 4, 2) := by decide +kernel
theorem dX11_commonest_29 : decode cX11_commonest 29 = .ok (.aload_n 0, 1) := by decide +kernel
theorem dX11_commonest_30 : decode cX11_commonest 30 = .ok (.iload 5, 2) := by decide +kernel
theorem dX11_commonest_32 : decode cX11_commonest 32 = .ok (.invokevirtual 221, 3) := by decide +kernel
theorem dX11_commonest_35 : decode cX11_commonest 35 = .ok (.ifCond .eq 21, 3) := by decide +kernel
theorem dX11_commonest_38 : decode cX11_commonest 38 = .ok (.aload_n 0, 1) := by decide +kernel
theorem dX11_commonest_39 : decode cX11_commonest 39 = .ok (.getfield 52, 3) := by decide +kernel
theorem dX11_commonest_42 : decode cX11_commonest 42 = .ok (.iload 5, 2) := by decide +kernel
theorem dX11_commonest_44 : decode cX11_commonest 44 = .ok (.aaload, 1) := by decide +kernel
theorem dX11_commonest_45 : decode cX11_commonest 45 = .ok (.iload_n 3, 1) := by decide +kernel
theorem dX11_commonest_46 : decode cX11_commonest 46 = .ok (.invokevirtual 412, 3) := by decide +kernel
theorem dX11_commonest_49 : decode cX11_commonest 49 = .ok (.ifCond .eq 7, 3) := by decide +kernel
theorem dX11_commonest_52 : decode cX11_commonest 52 = .ok (.iconst 1, 1) := by decide +kernel
theorem dX11_commonest_53 : decode cX11_commonest 53 = .ok (.goto 4, 3) := by decide +kernel
theorem dX11_commonest_56 : decode cX11_commonest 56 = .ok (.iconst 0, 1) := by decide +kernel
theorem dX11_commonest_57 : decode cX11_commonest 57 = .ok (.iadd, 1) := by decide +kernel
theorem dX11_commonest_58 : decode cX11_commonest 58 = .ok (.istore 4, 2) := by decide +kernel
theorem dX11_commonest_60 : decode cX11_commonest 60 = .ok (.iinc 5 1, 3) := by decide +kernel
theorem dX11_commonest_63 : decode cX11_commonest 63 = .ok (.goto (-45), 3) := by decide +kernel
theorem dX11_commonest_66 : decode cX11_commonest 66 = .ok (.iload 4, 2) := by decide +kernel
theorem dX11_commonest_68 : decode cX11_commonest 68 = .ok (.iload_n 2, 1) := by decide +kernel
theorem dX11_commonest_69 : decode cX11_commonest 69 = .ok (.if_icmp .le 8, 3) := by decide +kernel
theorem dX11_commonest_72 : decode cX11_commonest 72 = .ok (.iload_n 3, 1) := by decide +kernel
theorem dX11_commonest_73 : decode cX11_commonest 73 = .ok (.istore_n 1, 1) := by decide +kernel
theorem dX11_commonest_74 : decode cX11_commonest 74 = .ok (.iload 4, 2) := by decide +kernel
theorem dX11_commonest_76 : decode cX11_commonest 76 = .ok (.istore_n 2, 1) := by decide +kernel
theorem dX11_commonest_77 : decode cX11_commonest 77 = .ok (.iinc 3 1, 3) := by decide +kernel
theorem dX11_commonest_80 : decode cX11_commonest 80 = .ok (.goto (-74), 3) := by decide +kernel
theorem dX11_commonest_83 : decode cX11_commonest 83 = .ok (.iload_n 1, 1) := by decide +kernel
theorem dX11_commonest_84 : decode cX11_commonest 84 = .ok (.ireturn, 1) := by decide +kernel
theorem dX11_shownNow_0 : decode cX11_shownNow 0 = .ok (.iconst 0, 1) := by decide +kernel
theorem dX11_shownNow_1 : decode cX11_shownNow 1 = .ok (.istore_n 1, 1) := by decide +kernel
theorem dX11_shownNow_2 : decode cX11_shownNow 2 = .ok (.iconst 0, 1) := by decide +kernel
theorem dX11_shownNow_3 : decode cX11_shownNow 3 = .ok (.istore_n 2, 1) := by decide +kernel
theorem dX11_shownNow_4 : decode cX11_shownNow 4 = .ok (.iload_n 2, 1) := by decide +kernel
theorem dX11_shownNow_5 : decode cX11_shownNow 5 = .ok (.aload_n 0, 1) := by decide +kernel
theorem dX11_shownNow_6 : decode cX11_shownNow 6 = .ok (.getfield 75, 3) := by decide +kernel
theorem dX11_shownNow_9 : decode cX11_shownNow 9 = .ok (.getfield 150, 3) := by decide +kernel
theorem dX11_shownNow_12 : decode cX11_shownNow 12 = .ok (.if_icmp .ge 27, 3) := by decide +kernel
theorem dX11_shownNow_15 : decode cX11_shownNow 15 = .ok (.iload_n 1, 1) := by decide +kernel
theorem dX11_shownNow_16 : decode cX11_shownNow 16 = .ok (.iconst 1, 1) := by decide +kernel
theorem dX11_shownNow_17 : decode cX11_shownNow 17 = .ok (.aload_n 0, 1) := by decide +kernel
theorem dX11_shownNow_18 : decode cX11_shownNow 18 = .ok (.aload_n 0, 1) := by decide +kernel
theorem dX11_shownNow_19 : decode cX11_shownNow 19 = .ok (.getfield 75, 3) := by decide +kernel
theorem dX11_shownNow_22 : decode cX11_shownNow 22 = .ok (.getfield 153, 3) := by decide +kernel
theorem dX11_shownNow_25 : decode cX11_shownNow 25 = .ok (.iload_n 2, 1) := by decide +kernel
theorem dX11_shownNow_26 : decode cX11_shownNow 26 = .ok (.aaload, 1) := by decide +kernel
theorem dX11_shownNow_27 : decode cX11_shownNow 27 = .ok (.invokevirtual 215, 3) := by decide +kernel
theorem dX11_shownNow_30 : decode cX11_shownNow 30 = .ok (.ishl, 1) := by decide +kernel
theorem dX11_shownNow_31 : decode cX11_shownNow 31 = .ok (.ior, 1) := by decide +kernel
theorem dX11_shownNow_32 : decode cX11_shownNow 32 = .ok (.istore_n 1, 1) := by decide +kernel
theorem dX11_shownNow_33 : decode cX11_shownNow 33 = .ok (.iinc 2 1, 3) := by decide +kernel
theorem dX11_shownNow_36 : decode cX11_shownNow 36 = .ok (.goto (-32), 3) := by decide +kernel
theorem dX11_shownNow_39 : decode cX11_shownNow 39 = .ok (.iload_n 1, 1) := by decide +kernel
theorem dX11_shownNow_40 : decode cX11_shownNow 40 = .ok (.invokestatic 373, 3) := by decide +kernel
theorem dX11_shownNow_43 : decode cX11_shownNow 43 = .ok (.ireturn, 1) := by decide +kernel
theorem dX11_twins_0 : decode cX11_twins 0 = .ok (.iconst 0, 1) := by decide +kernel
theorem dX11_twins_1 : decode cX11_twins 1 = .ok (.istore_n 1, 1) := by decide +kernel
theorem dX11_twins_2 : decode cX11_twins 2 = .ok (.iconst 0, 1) := by decide +kernel
theorem dX11_twins_3 : decode cX11_twins 3 = .ok (.istore_n 2, 1) := by decide +kernel
theorem dX11_twins_4 : decode cX11_twins 4 = .ok (.iload_n 2, 1) := by decide +kernel
theorem dX11_twins_5 : decode cX11_twins 5 = .ok (.aload_n 0, 1) := by decide +kernel
theorem dX11_twins_6 : decode cX11_twins 6 = .ok (.getfield 75, 3) := by decide +kernel
theorem dX11_twins_9 : decode cX11_twins 9 = .ok (.getfield 150, 3) := by decide +kernel
theorem dX11_twins_12 : decode cX11_twins 12 = .ok (.if_icmp .ge 78, 3) := by decide +kernel
theorem dX11_twins_15 : decode cX11_twins 15 = .ok (.aload_n 0, 1) := by decide +kernel
theorem dX11_twins_16 : decode cX11_twins 16 = .ok (.aload_n 0, 1) := by decide +kernel
theorem dX11_twins_17 : decode cX11_twins 17 = .ok (.getfield 75, 3) := by decide +kernel
theorem dX11_twins_20 : decode cX11_twins 20 = .ok (.getfield 153, 3) := by decide +kernel
theorem dX11_twins_23 : decode cX11_twins 23 = .ok (.iload_n 2, 1) := by decide +kernel
theorem dX11_twins_24 : decode cX11_twins 24 = .ok (.aaload, 1) := by decide +kernel
theorem dX11_twins_25 : decode cX11_twins 25 = .ok (.invokevirtual 215, 3) := by decide +kernel
theorem dX11_twins_28 : decode cX11_twins 28 = .ok (.istore_n 3, 1) := by decide +kernel
theorem dX11_twins_29 : decode cX11_twins 29 = .ok (.iload_n 2, 1) := by decide +kernel
theorem dX11_twins_30 : decode cX11_twins 30 = .ok (.iconst 1, 1) := by decide +kernel
theorem dX11_twins_31 : decode cX11_twins 31 = .ok (.iadd, 1) := by decide +kernel
theorem dX11_twins_32 : decode cX11_twins 32 = .ok (.istore 4, 2) := by decide +kernel
theorem dX11_twins_34 : decode cX11_twins 34 = .ok (.iload 4, 2) := by decide +kernel
theorem dX11_twins_36 : decode cX11_twins 36 = .ok (.aload_n 0, 1) := by decide +kernel
theorem dX11_twins_37 : decode cX11_twins 37 = .ok (.getfield 75, 3) := by decide +kernel
theorem dX11_twins_40 : decode cX11_twins 40 = .ok (.getfield 150, 3) := by decide +kernel
theorem dX11_twins_43 : decode cX11_twins 43 = .ok (.if_icmp .ge 41, 3) := by decide +kernel
theorem dX11_twins_46 : decode cX11_twins 46 = .ok (.iload_n 3, 1) := by decide +kernel
theorem dX11_twins_47 : decode cX11_twins 47 = .ok (.bipush 26, 2) := by decide +kernel
theorem dX11_twins_49 : decode cX11_twins 49 = .ok (.if_icmp .eq 35, 3) := by decide +kernel
theorem dX11_twins_52 : decode cX11_twins 52 = .ok (.iload_n 1, 1) := by decide +kernel
theorem dX11_twins_53 : decode cX11_twins 53 = .ok (.aload_n 0, 1) := by decide +kernel
theorem dX11_twins_54 : decode cX11_twins 54 = .ok (.aload_n 0, 1) := by decide +kernel
theorem dX11_twins_55 : decode cX11_twins 55 = .ok (.getfield 75, 3) := by decide +kernel
theorem dX11_twins_58 : decode cX11_twins 58 = .ok (.getfield 153, 3) := by decide +kernel
theorem dX11_twins_61 : decode cX11_twins 61 = .ok (.iload 4, 2) := by decide +kernel
theorem dX11_twins_63 : decode cX11_twins 63 = .ok (.aaload, 1) := by decide +kernel
theorem dX11_twins_64 : decode cX11_twins 64 = .ok (.invokevirtual 215, 3) := by decide +kernel
theorem dX11_twins_67 : decode cX11_twins 67 = .ok (.iload_n 3, 1) := by decide +kernel
theorem dX11_twins_68 : decode cX11_twins 68 = .ok (.if_icmp .ne 7, 3) := by decide +kernel
theorem dX11_twins_71 : decode cX11_twins 71 = .ok (.iconst 1, 1) := by decide +kernel
theorem dX11_twins_72 : decode cX11_twins 72 = .ok (.goto 4, 3) := by decide +kernel
theorem dX11_twins_75 : decode cX11_twins 75 = .ok (.iconst 0, 1) := by decide +kernel
theorem dX11_twins_76 : decode cX11_twins 76 = .ok (.iadd, 1) := by decide +kernel
theorem dX11_twins_77 : decode cX11_twins 77 = .ok (.istore_n 1, 1) := by decide +kernel
theorem dX11_twins_78 : decode cX11_twins 78 = .ok (.iinc 4 1, 3) := by decide +kernel
theorem dX11_twins_81 : decode cX11_twins 81 = .ok (.goto (-47), 3) := by decide +kernel
theorem dX11_twins_84 : decode cX11_twins 84 = .ok (.iinc 2 1, 3) := by decide +kernel
theorem dX11_twins_87 : decode cX11_twins 87 = .ok (.goto (-83), 3) := by decide +kernel
theorem dX11_twins_90 : decode cX11_twins 90 = .ok (.iload_n 1, 1) := by decide +kernel
theorem dX11_twins_91 : decode cX11_twins 91 = .ok (.ireturn, 1) := by decide +kernel
theorem dX11_turningBack_0 : decode cX11_turningBack 0 = .ok (.iconst 0, 1) := by decide +kernel
theorem dX11_turningBack_1 : decode cX11_turningBack 1 = .ok (.istore_n 1, 1) := by decide +kernel
theorem dX11_turningBack_2 : decode cX11_turningBack 2 = .ok (.iconst 0, 1) := by decide +kernel
theorem dX11_turningBack_3 : decode cX11_turningBack 3 = .ok (.istore_n 2, 1) := by decide +kernel
theorem dX11_turningBack_4 : decode cX11_turningBack 4 = .ok (.iload_n 2, 1) := by decide +kernel
theorem dX11_turningBack_5 : decode cX11_turningBack 5 = .ok (.aload_n 0, 1) := by decide +kernel
theorem dX11_turningBack_6 : decode cX11_turningBack 6 = .ok (.getfield 75, 3) := by decide +kernel
theorem dX11_turningBack_9 : decode cX11_turningBack 9 = .ok (.getfield 150, 3) := by decide +kernel
theorem dX11_turningBack_12 : decode cX11_turningBack 12 = .ok (.if_icmp .ge 34, 3) := by decide +kernel
theorem dX11_turningBack_15 : decode cX11_turningBack 15 = .ok (.iload_n 1, 1) := by decide +kernel
theorem dX11_turningBack_16 : decode cX11_turningBack 16 = .ok (.aload_n 0, 1) := by decide +kernel
theorem dX11_turningBack_17 : decode cX11_turningBack 17 = .ok (.getfield 75, 3) := by decide +kernel
theorem dX11_turningBack_20 : decode cX11_turningBack 20 = .ok (.getfield 153, 3) := by decide +kernel
theorem dX11_turningBack_23 : decode cX11_turningBack 23 = .ok (.iload_n 2, 1) := by decide +kernel
theorem dX11_turningBack_24 : decode cX11_turningBack 24 = .ok (.aaload, 1) := by decide +kernel
theorem dX11_turningBack_25 : decode cX11_turningBack 25 = .ok (.getfield 209, 3) := by decide +kernel
theorem dX11_turningBack_28 : decode cX11_turningBack 28 = .ok (.ifCond .eq 9, 3) := by decide +kernel
theorem dX11_turningBack_31 : decode cX11_turningBack 31 = .ok (.iconst 1, 1) := by decide +kernel
theorem dX11_turningBack_32 : decode cX11_turningBack 32 = .ok (.iload_n 2, 1) := by decide +kernel
theorem dX11_turningBack_33 : decode cX11_turningBack 33 = .ok (.ishl, 1) := by decide +kernel
theorem dX11_turningBack_34 : decode cX11_turningBack 34 = .ok (.goto 4, 3) := by decide +kernel
theorem dX11_turningBack_37 : decode cX11_turningBack 37 = .ok (.iconst 0, 1) := by decide +kernel
theorem dX11_turningBack_38 : decode cX11_turningBack 38 = .ok (.ior, 1) := by decide +kernel
theorem dX11_turningBack_39 : decode cX11_turningBack 39 = .ok (.istore_n 1, 1) := by decide +kernel
theorem dX11_turningBack_40 : decode cX11_turningBack 40 = .ok (.iinc 2 1, 3) := by decide +kernel
theorem dX11_turningBack_43 : decode cX11_turningBack 43 = .ok (.goto (-39), 3) := by decide +kernel
theorem dX11_turningBack_46 : decode cX11_turningBack 46 = .ok (.iload_n 1, 1) := by decide +kernel
theorem dX11_turningBack_47 : decode cX11_turningBack 47 = .ok (.ireturn, 1) := by decide +kernel
theorem dX11_bareNow_0 : decode cX11_bareNow 0 = .ok (.iconst 0, 1) := by decide +kernel
theorem dX11_bareNow_1 : decode cX11_bareNow 1 = .ok (.istore_n 1, 1) := by decide +kernel
theorem dX11_bareNow_2 : decode cX11_bareNow 2 = .ok (.iconst 0, 1) := by decide +kernel
theorem dX11_bareNow_3 : decode cX11_bareNow 3 = .ok (.istore_n 2, 1) := by decide +kernel
theorem dX11_bareNow_4 : decode cX11_bareNow 4 = .ok (.iload_n 2, 1) := by decide +kernel
theorem dX11_bareNow_5 : decode cX11_bareNow 5 = .ok (.aload_n 0, 1) := by decide +kernel
theorem dX11_bareNow_6 : decode cX11_bareNow 6 = .ok (.getfield 75, 3) := by decide +kernel
theorem dX11_bareNow_9 : decode cX11_bareNow 9 = .ok (.getfield 150, 3) := by decide +kernel
theorem dX11_bareNow_12 : decode cX11_bareNow 12 = .ok (.if_icmp .ge 38, 3) := by decide +kernel
theorem dX11_bareNow_15 : decode cX11_bareNow 15 = .ok (.iload_n 1, 1) := by decide +kernel
theorem dX11_bareNow_16 : decode cX11_bareNow 16 = .ok (.aload_n 0, 1) := by decide +kernel
theorem dX11_bareNow_17 : decode cX11_bareNow 17 = .ok (.aload_n 0, 1) := by decide +kernel
theorem dX11_bareNow_18 : decode cX11_bareNow 18 = .ok (.getfield 75, 3) := by decide +kernel
theorem dX11_bareNow_21 : decode cX11_bareNow 21 = .ok (.getfield 153, 3) := by decide +kernel
theorem dX11_bareNow_24 : decode cX11_bareNow 24 = .ok (.iload_n 2, 1) := by decide +kernel
theorem dX11_bareNow_25 : decode cX11_bareNow 25 = .ok (.aaload, 1) := by decide +kernel
theorem dX11_bareNow_26 : decode cX11_bareNow 26 = .ok (.getfield 212, 3) := by decide +kernel
theorem dX11_bareNow_29 : decode cX11_bareNow 29 = .ok (.invokevirtual 221, 3) := by decide +kernel
theorem dX11_bareNow_32 : decode cX11_bareNow 32 = .ok (.ifCond .eq 7, 3) := by decide +kernel
theorem dX11_bareNow_35 : decode cX11_bareNow 35 = .ok (.iconst 0, 1) := by decide +kernel
theorem dX11_bareNow_36 : decode cX11_bareNow 36 = .ok (.goto 6, 3) := by decide +kernel
theorem dX11_bareNow_39 : decode cX11_bareNow 39 = .ok (.iconst 1, 1) := by decide +kernel
theorem dX11_bareNow_40 : decode cX11_bareNow 40 = .ok (.iload_n 2, 1) := by decide +kernel
theorem dX11_bareNow_41 : decode cX11_bareNow 41 = .ok (.ishl, 1) := by decide +kernel
theorem dX11_bareNow_42 : decode cX11_bareNow 42 = .ok (.ior, 1) := by decide +kernel
theorem dX11_bareNow_43 : decode cX11_bareNow 43 = .ok (.istore_n 1, 1) := by decide +kernel
theorem dX11_bareNow_44 : decode cX11_bareNow 44 = .ok (.iinc 2 1, 3) := by decide +kernel
theorem dX11_bareNow_47 : decode cX11_bareNow 47 = .ok (.goto (-43), 3) := by decide +kernel
theorem dX11_bareNow_50 : decode cX11_bareNow 50 = .ok (.iload_n 1, 1) := by decide +kernel
theorem dX11_bareNow_51 : decode cX11_bareNow 51 = .ok (.ireturn, 1) := by decide +kernel
theorem dX11_still_0 : decode cX11_still 0 = .ok (.iconst 0, 1) := by decide +kernel
theorem dX11_still_1 : decode cX11_still 1 = .ok (.istore_n 1, 1) := by decide +kernel
theorem dX11_still_2 : decode cX11_still 2 = .ok (.iconst 0, 1) := by decide +kernel
theorem dX11_still_3 : decode cX11_still 3 = .ok (.istore_n 2, 1) := by decide +kernel
theorem dX11_still_4 : decode cX11_still 4 = .ok (.iload_n 2, 1) := by decide +kernel
theorem dX11_still_5 : decode cX11_still 5 = .ok (.aload_n 0, 1) := by decide +kernel
theorem dX11_still_6 : decode cX11_still 6 = .ok (.getfield 75, 3) := by decide +kernel
theorem dX11_still_9 : decode cX11_still 9 = .ok (.getfield 150, 3) := by decide +kernel
theorem dX11_still_12 : decode cX11_still 12 = .ok (.if_icmp .ge 39, 3) := by decide +kernel
theorem dX11_still_15 : decode cX11_still 15 = .ok (.iload_n 1, 1) := by decide +kernel
theorem dX11_still_16 : decode cX11_still 16 = .ok (.aload_n 0, 1) := by decide +kernel
theorem dX11_still_17 : decode cX11_still 17 = .ok (.iload_n 2, 1) := by decide +kernel
theorem dX11_still_18 : decode cX11_still 18 = .ok (.invokevirtual 256, 3) := by decide +kernel
theorem dX11_still_21 : decode cX11_still 21 = .ok (.aload_n 0, 1) := by decide +kernel
theorem dX11_still_22 : decode cX11_still 22 = .ok (.getfield 75, 3) := by decide +kernel
theorem dX11_still_25 : decode cX11_still 25 = .ok (.getfield 153, 3) := by decide +kernel
theorem dX11_still_28 : decode cX11_still 28 = .ok (.iload_n 2, 1) := by decide +kernel
theorem dX11_still_29 : decode cX11_still 29 = .ok (.aaload, 1) := by decide +kernel
theorem dX11_still_30 : decode cX11_still 30 = .ok (.getfield 157, 3) := by decide +kernel
theorem dX11_still_33 : decode cX11_still 33 = .ok (.if_icmp .ne 9, 3) := by decide +kernel
theorem dX11_still_36 : decode cX11_still 36 = .ok (.iconst 1, 1) := by decide +kernel
theorem dX11_still_37 : decode cX11_still 37 = .ok (.iload_n 2, 1) := by decide +kernel
theorem dX11_still_38 : decode cX11_still 38 = .ok (.ishl, 1) := by decide +kernel
theorem dX11_still_39 : decode cX11_still 39 = .ok (.goto 4, 3) := by decide +kernel
theorem dX11_still_42 : decode cX11_still 42 = .ok (.iconst 0, 1) := by decide +kernel
theorem dX11_still_43 : decode cX11_still 43 = .ok (.ior, 1) := by decide +kernel
theorem dX11_still_44 : decode cX11_still 44 = .ok (.istore_n 1, 1) := by decide +kernel
theorem dX11_still_45 : decode cX11_still 45 = .ok (.iinc 2 1, 3) := by decide +kernel
theorem dX11_still_48 : decode cX11_still 48 = .ok (.goto (-44), 3) := by decide +kernel
theorem dX11_still_51 : decode cX11_still 51 = .ok (.iload_n 1, 1) := by decide +kernel
theorem dX11_still_52 : decode cX11_still 52 = .ok (.ireturn, 1) := by decide +kernel
theorem dX11_byPlace_0 : decode cX11_byPlace 0 = .ok (.iconst 0, 1) := by decide +kernel
theorem dX11_byPlace_1 : decode cX11_byPlace 1 = .ok (.istore_n 1, 1) := by decide +kernel
theorem dX11_byPlace_2 : decode cX11_byPlace 2 = .ok (.iconst 0, 1) := by decide +kernel
theorem dX11_byPlace_3 : decode cX11_byPlace 3 = .ok (.istore_n 2, 1) := by decide +kernel
theorem dX11_byPlace_4 : decode cX11_byPlace 4 = .ok (.iconst 0, 1) := by decide +kernel
theorem dX11_byPlace_5 : decode cX11_byPlace 5 = .ok (.istore_n 3, 1) := by decide +kernel
theorem dX11_byPlace_6 : decode cX11_byPlace 6 = .ok (.iload_n 3, 1) := by decide +kernel
theorem dX11_byPlace_7 : decode cX11_byPlace 7 = .ok (.aload_n 0, 1) := by decide +kernel
theorem dX11_byPlace_8 : decode cX11_byPlace 8 = .ok (.getfield 75, 3) := by decide +kernel
theorem dX11_byPlace_11 : decode cX11_byPlace 11 = .ok (.getfield 150, 3) := by decide +kernel
theorem dX11_byPlace_14 : decode cX11_byPlace 14 = .ok (.if_icmp .ge 118, 3) := by decide +kernel
theorem dX11_byPlace_17 : decode cX11_byPlace 17 = .ok (.iconst (-1), 1) := by decide +kernel
theorem dX11_byPlace_18 : decode cX11_byPlace 18 = .ok (.istore 4, 2) := by decide +kernel
theorem dX11_byPlace_20 : decode cX11_byPlace 20 = .ok (.iconst 0, 1) := by decide +kernel
theorem dX11_byPlace_21 : decode cX11_byPlace 21 = .ok (.istore 5, 2) := by decide +kernel
theorem dX11_byPlace_23 : decode cX11_byPlace 23 = .ok (.iload 5, 2) := by decide +kernel
theorem dX11_byPlace_25 : decode cX11_byPlace 25 = .ok (.aload_n 0, 1) := by decide +kernel
theorem dX11_byPlace_26 : decode cX11_byPlace 26 = .ok (.getfield 75, 3) := by decide +kernel
theorem dX11_byPlace_29 : decode cX11_byPlace 29 = .ok (.getfield 150, 3) := by decide +kernel
theorem dX11_byPlace_32 : decode cX11_byPlace 32 = .ok (.if_icmp .ge 69, 3) := by decide +kernel
theorem dX11_byPlace_35 : decode cX11_byPlace 35 = .ok (.iload_n 2, 1) := by decide +kernel
theorem dX11_byPlace_36 : decode cX11_byPlace 36 = .ok (.iload 5, 2) := by decide +kernel
theorem dX11_byPlace_38 : decode cX11_byPlace 38 = .ok (.ishr, 1) := by decide +kernel
theorem dX11_byPlace_39 : decode cX11_byPlace 39 = .ok (.iconst 1, 1) := by decide +kernel
theorem dX11_byPlace_40 : decode cX11_byPlace 40 = .ok (.iand, 1) := by decide +kernel
theorem dX11_byPlace_41 : decode cX11_byPlace 41 = .ok (.ifCond .ne 7, 3) := by decide +kernel
theorem dX11_byPlace_44 : decode cX11_byPlace 44 = .ok (.iconst 1, 1) := by decide +kernel
theorem dX11_byPlace_45 : decode cX11_byPlace 45 = .ok (.goto 4, 3) := by decide +kernel
theorem dX11_byPlace_48 : decode cX11_byPlace 48 = .ok (.iconst 0, 1) := by decide +kernel
theorem dX11_byPlace_49 : decode cX11_byPlace 49 = .ok (.istore 6, 2) := by decide +kernel
theorem dX11_byPlace_51 : decode cX11_byPlace 51 = .ok (.iload 6, 2) := by decide +kernel
theorem dX11_byPlace_53 : decode cX11_byPlace 53 = .ok (.ifCond .eq 42, 3) := by decide +kernel
theorem dX11_byPlace_56 : decode cX11_byPlace 56 = .ok (.iload 4, 2) := by decide +kernel
theorem dX11_byPlace_58 : decode cX11_byPlace 58 = .ok (.iconst (-1), 1) := by decide +kernel
theorem dX11_byPlace_59 : decode cX11_byPlace 59 = .ok (.if_icmp .eq 32, 3) := by decide +kernel
theorem dX11_byPlace_62 : decode cX11_byPlace 62 = .ok (.aload_n 0, 1) := by decide +kernel
theorem dX11_byPlace_63 : decode cX11_byPlace 63 = .ok (.getfield 75, 3) := by decide +kernel
theorem dX11_byPlace_66 : decode cX11_byPlace 66 = .ok (.getfield 153, 3) := by decide +kernel
theorem dX11_byPlace_69 : decode cX11_byPlace 69 = .ok (.iload 5, 2) := by decide +kernel
theorem dX11_byPlace_71 : decode cX11_byPlace 71 = .ok (.aaload, 1) := by decide +kernel
theorem dX11_byPlace_72 : decode cX11_byPlace 72 = .ok (.getfield 157, 3) := by decide +kernel
theorem dX11_byPlace_75 : decode cX11_byPlace 75 = .ok (.aload_n 0, 1) := by decide +kernel
theorem dX11_byPlace_76 : decode cX11_byPlace 76 = .ok (.getfield 75, 3) := by decide +kernel
theorem dX11_byPlace_79 : decode cX11_byPlace 79 = .ok (.getfield 153, 3) := by decide +kernel
theorem dX11_byPlace_82 : decode cX11_byPlace 82 = .ok (.iload 4, 2) := by decide +kernel
theorem dX11_byPlace_84 : decode cX11_byPlace 84 = .ok (.aaload, 1) := by decide +kernel
theorem dX11_byPlace_85 : decode cX11_byPlace 85 = .ok (.getfield 157, 3) := by decide +kernel
theorem dX11_byPlace_88 : decode cX11_byPlace 88 = .ok (.if_icmp .ge 7, 3) := by decide +kernel
theorem dX11_byPlace_91 : decode cX11_byPlace 91 = .ok (.iload 5, 2) := by decide +kernel
theorem dX11_byPlace_93 : decode cX11_byPlace 93 = .ok (.istore 4, 2) := by decide +kernel
theorem dX11_byPlace_95 : decode cX11_byPlace 95 = .ok (.iinc 5 1, 3) := by decide +kernel
theorem dX11_byPlace_98 : decode cX11_byPlace 98 = .ok (.goto (-75), 3) := by decide +kernel
theorem dX11_byPlace_101 : decode cX11_byPlace 101 = .ok (.iload_n 2, 1) := by decide +kernel
theorem dX11_byPlace_102 : decode cX11_byPlace 102 = .ok (.iload 4, 2) := by decide +kernel
theorem dX11_byPlace_104 : decode cX11_byPlace 104 = .ok (.iconst (-1), 1) := by decide +kernel
theorem dX11_byPlace_105 : decode cX11_byPlace 105 = .ok (.if_icmp .ne 7, 3) := by decide +kernel
theorem dX11_byPlace_108 : decode cX11_byPlace 108 = .ok (.iconst 0, 1) := by decide +kernel
theorem dX11_byPlace_109 : decode cX11_byPlace 109 = .ok (.goto 7, 3) := by decide +kernel
theorem dX11_byPlace_112 : decode cX11_byPlace 112 = .ok (.iconst 1, 1) := by decide +kernel
theorem dX11_byPlace_113 : decode cX11_byPlace 113 = .ok (.iload 4, 2) := by decide +kernel
theorem dX11_byPlace_115 : decode cX11_byPlace 115 = .ok (.ishl, 1) := by decide +kernel
theorem dX11_byPlace_116 : decode cX11_byPlace 116 = .ok (.ior, 1) := by decide +kernel
theorem dX11_byPlace_117 : decode cX11_byPlace 117 = .ok (.istore_n 2, 1) := by decide +kernel
theorem dX11_byPlace_118 : decode cX11_byPlace 118 = .ok (.iload_n 1, 1) := by decide +kernel
theorem dX11_byPlace_119 : decode cX11_byPlace 119 = .ok (.bipush 10, 2) := by decide +kernel
theorem dX11_byPlace_121 : decode cX11_byPlace 121 = .ok (.imul, 1) := by decide +kernel
theorem dX11_byPlace_122 : decode cX11_byPlace 122 = .ok (.iload 4, 2) := by decide +kernel
theorem dX11_byPlace_124 : decode cX11_byPlace 124 = .ok (.iadd, 1) := by decide +kernel
theorem dX11_byPlace_125 : decode cX11_byPlace 125 = .ok (.istore_n 1, 1) := by decide +kernel
theorem dX11_byPlace_126 : decode cX11_byPlace 126 = .ok (.iinc 3 1, 3) := by decide +kernel
theorem dX11_byPlace_129 : decode cX11_byPlace 129 = .ok (.goto (-123), 3) := by decide +kernel
theorem dX11_byPlace_132 : decode cX11_byPlace 132 = .ok (.iload_n 1, 1) := by decide +kernel
theorem dX11_byPlace_133 : decode cX11_byPlace 133 = .ok (.ireturn, 1) := by decide +kernel
theorem dX11_image_0 : decode cX11_image 0 = .ok (.aload_n 0, 1) := by decide +kernel
theorem dX11_image_1 : decode cX11_image 1 = .ok (.invokevirtual 183, 3) := by decide +kernel
theorem dX11_image_4 : decode cX11_image 4 = .ok (.ifCond .ne 5, 3) := by decide +kernel
theorem dX11_image_7 : decode cX11_image 7 = .ok (.iconst (-1), 1) := by decide +kernel
theorem dX11_image_8 : decode cX11_image 8 = .ok (.ireturn, 1) := by decide +kernel
theorem dX11_image_9 : decode cX11_image 9 = .ok (.aload_n 0, 1) := by decide +kernel
theorem dX11_image_10 : decode cX11_image 10 = .ok (.getfield 86, 3) := by decide +kernel
theorem dX11_image_13 : decode cX11_image 13 = .ok (.aload_n 0, 1) := by decide +kernel
theorem dX11_image_14 : decode cX11_image 14 = .ok (.getfield 75, 3) := by decide +kernel
theorem dX11_image_17 : decode cX11_image 17 = .ok (.invokevirtual 415, 3) := by decide +kernel
theorem dX11_image_20 : decode cX11_image 20 = .ok (.aload_n 0, 1) := by decide +kernel
theorem dX11_image_21 : decode cX11_image 21 = .ok (.iconst 1, 1) := by decide +kernel
theorem dX11_image_22 : decode cX11_image 22 = .ok (.putfield 89, 3) := by decide +kernel
theorem dX11_image_25 : decode cX11_image 25 = .ok (.aload_n 0, 1) := by decide +kernel
theorem dX11_image_26 : decode cX11_image 26 = .ok (.getfield 75, 3) := by decide +kernel
theorem dX11_image_29 : decode cX11_image 29 = .ok (.getfield 230, 3) := by decide +kernel
theorem dX11_image_32 : decode cX11_image 32 = .ok (.ireturn, 1) := by decide +kernel
theorem dX11_back_0 : decode cX11_back 0 = .ok (.aload_n 0, 1) := by decide +kernel
theorem dX11_back_1 : decode cX11_back 1 = .ok (.getfield 89, 3) := by decide +kernel
theorem dX11_back_4 : decode cX11_back 4 = .ok (.ifCond .ne 5, 3) := by decide +kernel
theorem dX11_back_7 : decode cX11_back 7 = .ok (.iconst (-1), 1) := by decide +kernel
theorem dX11_back_8 : decode cX11_back 8 = .ok (.ireturn, 1) := by decide +kernel
theorem dX11_back_9 : decode cX11_back 9 = .ok (.aload_n 0, 1) := by decide +kernel
theorem dX11_back_10 : decode cX11_back 10 = .ok (.getfield 75, 3) := by decide +kernel
theorem dX11_back_13 : decode cX11_back 13 = .ok (.aload_n 0, 1) := by decide +kernel
theorem dX11_back_14 : decode cX11_back 14 = .ok (.getfield 86, 3) := by decide +kernel
theorem dX11_back_17 : decode cX11_back 17 = .ok (.invokevirtual 415, 3) := by decide +kernel
theorem dX11_back_20 : decode cX11_back 20 = .ok (.aload_n 0, 1) := by decide +kernel
theorem dX11_back_21 : decode cX11_back 21 = .ok (.getfield 82, 3) := by decide +kernel
theorem dX11_back_24 : decode cX11_back 24 = .ok (.invokevirtual 173, 3) := by decide +kernel
theorem dX11_back_27 : decode cX11_back 27 = .ok (.aload_n 0, 1) := by decide +kernel
theorem dX11_back_28 : decode cX11_back 28 = .ok (.getfield 75, 3) := by decide +kernel
theorem dX11_back_31 : decode cX11_back 31 = .ok (.getfield 230, 3) := by decide +kernel
theorem dX11_back_34 : decode cX11_back 34 = .ok (.ireturn, 1) := by decide +kernel
theorem dX11_count_0 : decode cX11_count 0 = .ok (.iload_n 1, 1) := by decide +kernel
theorem dX11_count_1 : decode cX11_count 1 = .ok (.tableswitch 120 0 9 #[55, 63, 68, 73, 78, 83, 91, 96, 104, 112], 55) := by decide +kernel
theorem dX11_count_56 : decode cX11_count 56 = .ok (.aload_n 0, 1) := by decide +kernel
theorem dX11_count_57 : decode cX11_count 57 = .ok (.getfield 75, 3) := by decide +kernel
theorem dX11_count_60 : decode cX11_count 60 = .ok (.getfield 150, 3) := by decide +kernel
theorem dX11_count_63 : decode cX11_count 63 = .ok (.ireturn, 1) := by decide +kernel
theorem dX11_count_64 : decode cX11_count 64 = .ok (.aload_n 0, 1) := by decide +kernel
theorem dX11_count_65 : decode cX11_count 65 = .ok (.getfield 44, 3) := by decide +kernel
theorem dX11_count_68 : decode cX11_count 68 = .ok (.ireturn, 1) := by decide +kernel
theorem dX11_count_69 : decode cX11_count 69 = .ok (.aload_n 0, 1) := by decide +kernel
theorem dX11_count_70 : decode cX11_count 70 = .ok (.getfield 56, 3) := by decide +kernel
theorem dX11_count_73 : decode cX11_count 73 = .ok (.ireturn, 1) := by decide +kernel
theorem dX11_count_74 : decode cX11_count 74 = .ok (.aload_n 0, 1) := by decide +kernel
theorem dX11_count_75 : decode cX11_count 75 = .ok (.getfield 13, 3) := by decide +kernel
theorem dX11_count_78 : decode cX11_count 78 = .ok (.ireturn, 1) := by decide +kernel
theorem dX11_count_79 : decode cX11_count 79 = .ok (.aload_n 0, 1) := by decide +kernel
theorem dX11_count_80 : decode cX11_count 80 = .ok (.getfield 47, 3) := by decide +kernel
theorem dX11_count_83 : decode cX11_count 83 = .ok (.ireturn, 1) := by decide +kernel
theorem dX11_count_84 : decode cX11_count 84 = .ok (.aload_n 0, 1) := by decide +kernel
theorem dX11_count_85 : decode cX11_count 85 = .ok (.getfield 75, 3) := by decide +kernel
theorem dX11_count_88 : decode cX11_count 88 = .ok (.getfield 230, 3) := by decide +kernel
theorem dX11_count_91 : decode cX11_count 91 = .ok (.ireturn, 1) := by decide +kernel
theorem dX11_count_92 : decode cX11_count 92 = .ok (.aload_n 0, 1) := by decide +kernel
theorem dX11_count_93 : decode cX11_count 93 = .ok (.getfield 66, 3) := by decide +kernel
theorem dX11_count_96 : decode cX11_count 96 = .ok (.ireturn, 1) := by decide +kernel
theorem dX11_count_97 : decode cX11_count 97 = .ok (.aload_n 0, 1) := by decide +kernel
theorem dX11_count_98 : decode cX11_count 98 = .ok (.getfield 96, 3) := by decide +kernel
theorem dX11_count_101 : decode cX11_count 101 = .ok (.getfield 418, 3) := by decide +kernel
theorem dX11_count_104 : decode cX11_count 104 = .ok (.ireturn, 1) := by decide +kernel
theorem dX11_count_105 : decode cX11_count 105 = .ok (.aload_n 0, 1) := by decide +kernel
theorem dX11_count_106 : decode cX11_count 106 = .ok (.getfield 75, 3) := by decide +kernel
theorem dX11_count_109 : decode cX11_count 109 = .ok (.invokevirtual 250, 3) := by decide +kernel
theorem dX11_count_112 : decode cX11_count 112 = .ok (.ireturn, 1) := by decide +kernel
theorem dX11_count_113 : decode cX11_count 113 = .ok (.aload_n 0, 1) := by decide +kernel
theorem dX11_count_114 : decode cX11_count 114 = .ok (.getfield 82, 3) := by decide +kernel
theorem dX11_count_117 : decode cX11_count 117 = .ok (.getfield 420, 3) := by decide +kernel
theorem dX11_count_120 : decode cX11_count 120 = .ok (.ireturn, 1) := by decide +kernel
theorem dX11_count_121 : decode cX11_count 121 = .ok (.ldc_w 287, 3) := by decide +kernel
theorem dX11_count_124 : decode cX11_count 124 = .ok (.ireturn, 1) := by decide +kernel
theorem dX11_round_0 : decode cX11_round 0 = .ok (.iload_n 1, 1) := by decide +kernel
theorem dX11_round_1 : decode cX11_round 1 = .ok (.iconst 1, 1) := by decide +kernel
theorem dX11_round_2 : decode cX11_round 2 = .ok (.if_icmp .ge 7, 3) := by decide +kernel
theorem dX11_round_5 : decode cX11_round 5 = .ok (.iconst 0, 1) := by decide +kernel
theorem dX11_round_6 : decode cX11_round 6 = .ok (.goto 8, 3) := by decide +kernel
theorem dX11_round_9 : decode cX11_round 9 = .ok (.iload_n 0, 1) := by decide +kernel
theorem dX11_round_10 : decode cX11_round 10 = .ok (.iload_n 1, 1) := by decide +kernel
theorem dX11_round_11 : decode cX11_round 11 = .ok (.invokestatic 421, 3) := by decide +kernel
theorem dX11_round_14 : decode cX11_round 14 = .ok (.ireturn, 1) := by decide +kernel
theorem dX11_within_0 : decode cX11_within 0 = .ok (.iload_n 2, 1) := by decide +kernel
theorem dX11_within_1 : decode cX11_within 1 = .ok (.i2l, 1) := by decide +kernel
theorem dX11_within_2 : decode cX11_within 2 = .ok (.iload_n 3, 1) := by decide +kernel
theorem dX11_within_3 : decode cX11_within 3 = .ok (.i2l, 1) := by decide +kernel
theorem dX11_within_4 : decode cX11_within 4 = .ok (.lload_n 0, 1) := by decide +kernel
theorem dX11_within_5 : decode cX11_within 5 = .ok (.invokestatic 424, 3) := by decide +kernel
theorem dX11_within_8 : decode cX11_within 8 = .ok (.invokestatic 427, 3) := by decide +kernel
theorem dX11_within_11 : decode cX11_within 11 = .ok (.l2i, 1) := by decide +kernel
theorem dX11_within_12 : decode cX11_within 12 = .ok (.ireturn, 1) := by decide +kernel
theorem dJ11_isValidCodePoint_9a6ad_0 : decode cJ11_isValidCodePoint_9a6ad 0 = .ok (.iload_n 0, 1) := by decide +kernel
theorem dJ11_isValidCodePoint_9a6ad_1 : decode cJ11_isValidCodePoint_9a6ad 1 = .ok (.bipush 16, 2) := by decide +kernel
theorem dJ11_isValidCodePoint_9a6ad_3 : decode cJ11_isValidCodePoint_9a6ad 3 = .ok (.iushr, 1) := by decide +kernel
theorem dJ11_isValidCodePoint_9a6ad_4 : decode cJ11_isValidCodePoint_9a6ad 4 = .ok (.istore_n 1, 1) := by decide +kernel
theorem dJ11_isValidCodePoint_9a6ad_5 : decode cJ11_isValidCodePoint_9a6ad 5 = .ok (.iload_n 1, 1) := by decide +kernel
theorem dJ11_isValidCodePoint_9a6ad_6 : decode cJ11_isValidCodePoint_9a6ad 6 = .ok (.bipush 17, 2) := by decide +kernel
theorem dJ11_isValidCodePoint_9a6ad_8 : decode cJ11_isValidCodePoint_9a6ad 8 = .ok (.if_icmp .ge 7, 3) := by decide +kernel
theorem dJ11_isValidCodePoint_9a6ad_11 : decode cJ11_isValidCodePoint_9a6ad 11 = .ok (.iconst 1, 1) := by decide +kernel
theorem dJ11_isValidCodePoint_9a6ad_12 : decode cJ11_isValidCodePoint_9a6ad 12 = .ok (.goto 4, 3) := by decide +kernel
theorem dJ11_isValidCodePoint_9a6ad_15 : decode cJ11_isValidCodePoint_9a6ad 15 = .ok (.iconst 0, 1) := by decide +kernel
theorem dJ11_isValidCodePoint_9a6ad_16 : decode cJ11_isValidCodePoint_9a6ad 16 = .ok (.ireturn, 1) := by decide +kernel
theorem dJ11_highSurrogate_5068e_0 : decode cJ11_highSurrogate_5068e 0 = .ok (.iload_n 0, 1) := by decide +kernel
theorem dJ11_highSurrogate_5068e_1 : decode cJ11_highSurrogate_5068e 1 = .ok (.bipush 10, 2) := by decide +kernel
theorem dJ11_highSurrogate_5068e_3 : decode cJ11_highSurrogate_5068e 3 = .ok (.iushr, 1) := by decide +kernel
theorem dJ11_highSurrogate_5068e_4 : decode cJ11_highSurrogate_5068e 4 = .ok (.ldc 110, 2) := by decide +kernel
theorem dJ11_highSurrogate_5068e_6 : decode cJ11_highSurrogate_5068e 6 = .ok (.iadd, 1) := by decide +kernel
theorem dJ11_highSurrogate_5068e_7 : decode cJ11_highSurrogate_5068e 7 = .ok (.i2c, 1) := by decide +kernel
theorem dJ11_highSurrogate_5068e_8 : decode cJ11_highSurrogate_5068e 8 = .ok (.ireturn, 1) := by decide +kernel
theorem dJ11_lowSurrogate_5068e_0 : decode cJ11_lowSurrogate_5068e 0 = .ok (.iload_n 0, 1) := by decide +kernel
theorem dJ11_lowSurrogate_5068e_1 : decode cJ11_lowSurrogate_5068e 1 = .ok (.sipush 1023, 3) := by decide +kernel
theorem dJ11_lowSurrogate_5068e_4 : decode cJ11_lowSurrogate_5068e 4 = .ok (.iand, 1) := by decide +kernel
theorem dJ11_lowSurrogate_5068e_5 : decode cJ11_lowSurrogate_5068e 5 = .ok (.ldc 76, 2) := by decide +kernel
theorem dJ11_lowSurrogate_5068e_7 : decode cJ11_lowSurrogate_5068e 7 = .ok (.iadd, 1) := by decide +kernel
theorem dJ11_lowSurrogate_5068e_8 : decode cJ11_lowSurrogate_5068e 8 = .ok (.i2c, 1) := by decide +kernel
theorem dJ11_lowSurrogate_5068e_9 : decode cJ11_lowSurrogate_5068e 9 = .ok (.ireturn, 1) := by decide +kernel
theorem dJ6_compare_7cf53_0 : decode cJ6_compare_7cf53 0 = .ok (.iload_n 0, 1) := by decide +kernel
theorem dJ6_compare_7cf53_1 : decode cJ6_compare_7cf53 1 = .ok (.iload_n 1, 1) := by decide +kernel
theorem dJ6_compare_7cf53_2 : decode cJ6_compare_7cf53 2 = .ok (.if_icmp .ge 7, 3) := by decide +kernel
theorem dJ6_compare_7cf53_5 : decode cJ6_compare_7cf53 5 = .ok (.iconst (-1), 1) := by decide +kernel
theorem dJ6_compare_7cf53_6 : decode cJ6_compare_7cf53 6 = .ok (.goto 13, 3) := by decide +kernel
theorem dJ6_compare_7cf53_9 : decode cJ6_compare_7cf53 9 = .ok (.iload_n 0, 1) := by decide +kernel
theorem dJ6_compare_7cf53_10 : decode cJ6_compare_7cf53 10 = .ok (.iload_n 1, 1) := by decide +kernel
theorem dJ6_compare_7cf53_11 : decode cJ6_compare_7cf53 11 = .ok (.if_icmp .ne 7, 3) := by decide +kernel
theorem dJ6_compare_7cf53_14 : decode cJ6_compare_7cf53 14 = .ok (.iconst 0, 1) := by decide +kernel
theorem dJ6_compare_7cf53_15 : decode cJ6_compare_7cf53 15 = .ok (.goto 4, 3) := by decide +kernel
theorem dJ6_compare_7cf53_18 : decode cJ6_compare_7cf53 18 = .ok (.iconst 1, 1) := by decide +kernel
theorem dJ6_compare_7cf53_19 : decode cJ6_compare_7cf53 19 = .ok (.ireturn, 1) := by decide +kernel
theorem dJ6_bitCount_0f7a4_0 : decode cJ6_bitCount_0f7a4 0 = .ok (.iload_n 0, 1) := by decide +kernel
theorem dJ6_bitCount_0f7a4_1 : decode cJ6_bitCount_0f7a4 1 = .ok (.iload_n 0, 1) := by decide +kernel
theorem dJ6_bitCount_0f7a4_2 : decode cJ6_bitCount_0f7a4 2 = .ok (.iconst 1, 1) := by decide +kernel
theorem dJ6_bitCount_0f7a4_3 : decode cJ6_bitCount_0f7a4 3 = .ok (.iushr, 1) := by decide +kernel
theorem dJ6_bitCount_0f7a4_4 : decode cJ6_bitCount_0f7a4 4 = .ok (.ldc_w 265, 3) := by decide +kernel
theorem dJ6_bitCount_0f7a4_7 : decode cJ6_bitCount_0f7a4 7 = .ok (.iand, 1) := by decide +kernel
theorem dJ6_bitCount_0f7a4_8 : decode cJ6_bitCount_0f7a4 8 = .ok (.isub, 1) := by decide +kernel
theorem dJ6_bitCount_0f7a4_9 : decode cJ6_bitCount_0f7a4 9 = .ok (.istore_n 0, 1) := by decide +kernel
theorem dJ6_bitCount_0f7a4_10 : decode cJ6_bitCount_0f7a4 10 = .ok (.iload_n 0, 1) := by decide +kernel
theorem dJ6_bitCount_0f7a4_11 : decode cJ6_bitCount_0f7a4 11 = .ok (.ldc_w 266, 3) := by decide +kernel
theorem dJ6_bitCount_0f7a4_14 : decode cJ6_bitCount_0f7a4 14 = .ok (.iand, 1) := by decide +kernel
theorem dJ6_bitCount_0f7a4_15 : decode cJ6_bitCount_0f7a4 15 = .ok (.iload_n 0, 1) := by decide +kernel
theorem dJ6_bitCount_0f7a4_16 : decode cJ6_bitCount_0f7a4 16 = .ok (.iconst 2, 1) := by decide +kernel
theorem dJ6_bitCount_0f7a4_17 : decode cJ6_bitCount_0f7a4 17 = .ok (.iushr, 1) := by decide +kernel
theorem dJ6_bitCount_0f7a4_18 : decode cJ6_bitCount_0f7a4 18 = .ok (.ldc_w 266, 3) := by decide +kernel
theorem dJ6_bitCount_0f7a4_21 : decode cJ6_bitCount_0f7a4 21 = .ok (.iand, 1) := by decide +kernel
theorem dJ6_bitCount_0f7a4_22 : decode cJ6_bitCount_0f7a4 22 = .ok (.iadd, 1) := by decide +kernel
theorem dJ6_bitCount_0f7a4_23 : decode cJ6_bitCount_0f7a4 23 = .ok (.istore_n 0, 1) := by decide +kernel
theorem dJ6_bitCount_0f7a4_24 : decode cJ6_bitCount_0f7a4 24 = .ok (.iload_n 0, 1) := by decide +kernel
theorem dJ6_bitCount_0f7a4_25 : decode cJ6_bitCount_0f7a4 25 = .ok (.iload_n 0, 1) := by decide +kernel
theorem dJ6_bitCount_0f7a4_26 : decode cJ6_bitCount_0f7a4 26 = .ok (.iconst 4, 1) := by decide +kernel
theorem dJ6_bitCount_0f7a4_27 : decode cJ6_bitCount_0f7a4 27 = .ok (.iushr, 1) := by decide +kernel
theorem dJ6_bitCount_0f7a4_28 : decode cJ6_bitCount_0f7a4 28 = .ok (.iadd, 1) := by decide +kernel
theorem dJ6_bitCount_0f7a4_29 : decode cJ6_bitCount_0f7a4 29 = .ok (.ldc_w 267, 3) := by decide +kernel
theorem dJ6_bitCount_0f7a4_32 : decode cJ6_bitCount_0f7a4 32 = .ok (.iand, 1) := by decide +kernel
theorem dJ6_bitCount_0f7a4_33 : decode cJ6_bitCount_0f7a4 33 = .ok (.istore_n 0, 1) := by decide +kernel
theorem dJ6_bitCount_0f7a4_34 : decode cJ6_bitCount_0f7a4 34 = .ok (.iload_n 0, 1) := by decide +kernel
theorem dJ6_bitCount_0f7a4_35 : decode cJ6_bitCount_0f7a4 35 = .ok (.iload_n 0, 1) := by decide +kernel
theorem dJ6_bitCount_0f7a4_36 : decode cJ6_bitCount_0f7a4 36 = .ok (.bipush 8, 2) := by decide +kernel
theorem dJ6_bitCount_0f7a4_38 : decode cJ6_bitCount_0f7a4 38 = .ok (.iushr, 1) := by decide +kernel
theorem dJ6_bitCount_0f7a4_39 : decode cJ6_bitCount_0f7a4 39 = .ok (.iadd, 1) := by decide +kernel
theorem dJ6_bitCount_0f7a4_40 : decode cJ6_bitCount_0f7a4 40 = .ok (.istore_n 0, 1) := by decide +kernel
theorem dJ6_bitCount_0f7a4_41 : decode cJ6_bitCount_0f7a4 41 = .ok (.iload_n 0, 1) := by decide +kernel
theorem dJ6_bitCount_0f7a4_42 : decode cJ6_bitCount_0f7a4 42 = .ok (.iload_n 0, 1) := by decide +kernel
theorem dJ6_bitCount_0f7a4_43 : decode cJ6_bitCount_0f7a4 43 = .ok (.bipush 16, 2) := by decide +kernel
theorem dJ6_bitCount_0f7a4_45 : decode cJ6_bitCount_0f7a4 45 = .ok (.iushr, 1) := by decide +kernel
theorem dJ6_bitCount_0f7a4_46 : decode cJ6_bitCount_0f7a4 46 = .ok (.iadd, 1) := by decide +kernel
theorem dJ6_bitCount_0f7a4_47 : decode cJ6_bitCount_0f7a4 47 = .ok (.istore_n 0, 1) := by decide +kernel
theorem dJ6_bitCount_0f7a4_48 : decode cJ6_bitCount_0f7a4 48 = .ok (.iload_n 0, 1) := by decide +kernel
theorem dJ6_bitCount_0f7a4_49 : decode cJ6_bitCount_0f7a4 49 = .ok (.bipush 63, 2) := by decide +kernel
theorem dJ6_bitCount_0f7a4_51 : decode cJ6_bitCount_0f7a4 51 = .ok (.iand, 1) := by decide +kernel
theorem dJ6_bitCount_0f7a4_52 : decode cJ6_bitCount_0f7a4 52 = .ok (.ireturn, 1) := by decide +kernel
theorem dJ9_floorMod_7cf53_0 : decode cJ9_floorMod_7cf53 0 = .ok (.iload_n 0, 1) := by decide +kernel
theorem dJ9_floorMod_7cf53_1 : decode cJ9_floorMod_7cf53 1 = .ok (.iload_n 1, 1) := by decide +kernel
theorem dJ9_floorMod_7cf53_2 : decode cJ9_floorMod_7cf53 2 = .ok (.irem, 1) := by decide +kernel
theorem dJ9_floorMod_7cf53_3 : decode cJ9_floorMod_7cf53 3 = .ok (.istore_n 2, 1) := by decide +kernel
theorem dJ9_floorMod_7cf53_4 : decode cJ9_floorMod_7cf53 4 = .ok (.iload_n 0, 1) := by decide +kernel
theorem dJ9_floorMod_7cf53_5 : decode cJ9_floorMod_7cf53 5 = .ok (.iload_n 1, 1) := by decide +kernel
theorem dJ9_floorMod_7cf53_6 : decode cJ9_floorMod_7cf53 6 = .ok (.ixor, 1) := by decide +kernel
theorem dJ9_floorMod_7cf53_7 : decode cJ9_floorMod_7cf53 7 = .ok (.ifCond .ge 11, 3) := by decide +kernel
theorem dJ9_floorMod_7cf53_10 : decode cJ9_floorMod_7cf53 10 = .ok (.iload_n 2, 1) := by decide +kernel
theorem dJ9_floorMod_7cf53_11 : decode cJ9_floorMod_7cf53 11 = .ok (.ifCond .eq 7, 3) := by decide +kernel
theorem dJ9_floorMod_7cf53_14 : decode cJ9_floorMod_7cf53 14 = .ok (.iload_n 2, 1) := by decide +kernel
theorem dJ9_floorMod_7cf53_15 : decode cJ9_floorMod_7cf53 15 = .ok (.iload_n 1, 1) := by decide +kernel
theorem dJ9_floorMod_7cf53_16 : decode cJ9_floorMod_7cf53 16 = .ok (.iadd, 1) := by decide +kernel
theorem dJ9_floorMod_7cf53_17 : decode cJ9_floorMod_7cf53 17 = .ok (.ireturn, 1) := by decide +kernel
theorem dJ9_floorMod_7cf53_18 : decode cJ9_floorMod_7cf53 18 = .ok (.iload_n 2, 1) := by decide +kernel
theorem dJ9_floorMod_7cf53_19 : decode cJ9_floorMod_7cf53 19 = .ok (.ireturn, 1) := by decide +kernel
theorem dJ9_max_7cf53_0 : decode cJ9_max_7cf53 0 = .ok (.iload_n 0, 1) := by decide +kernel
theorem dJ9_max_7cf53_1 : decode cJ9_max_7cf53 1 = .ok (.iload_n 1, 1) := by decide +kernel
theorem dJ9_max_7cf53_2 : decode cJ9_max_7cf53 2 = .ok (.if_icmp .lt 7, 3) := by decide +kernel
theorem dJ9_max_7cf53_5 : decode cJ9_max_7cf53 5 = .ok (.iload_n 0, 1) := by decide +kernel
theorem dJ9_max_7cf53_6 : decode cJ9_max_7cf53 6 = .ok (.goto 4, 3) := by decide +kernel
theorem dJ9_max_7cf53_9 : decode cJ9_max_7cf53 9 = .ok (.iload_n 1, 1) := by decide +kernel
theorem dJ9_max_7cf53_10 : decode cJ9_max_7cf53 10 = .ok (.ireturn, 1) := by decide +kernel
theorem dJ9_max_f86c9_0 : decode cJ9_max_f86c9 0 = .ok (.lload_n 0, 1) := by decide +kernel
theorem dJ9_max_f86c9_1 : decode cJ9_max_f86c9 1 = .ok (.lload_n 2, 1) := by decide +kernel
theorem dJ9_max_f86c9_2 : decode cJ9_max_f86c9 2 = .ok (.lcmp, 1) := by decide +kernel
theorem dJ9_max_f86c9_3 : decode cJ9_max_f86c9 3 = .ok (.ifCond .lt 7, 3) := by decide +kernel
theorem dJ9_max_f86c9_6 : decode cJ9_max_f86c9 6 = .ok (.lload_n 0, 1) := by decide +kernel
theorem dJ9_max_f86c9_7 : decode cJ9_max_f86c9 7 = .ok (.goto 4, 3) := by decide +kernel
theorem dJ9_max_f86c9_10 : decode cJ9_max_f86c9 10 = .ok (.lload_n 2, 1) := by decide +kernel
theorem dJ9_max_f86c9_11 : decode cJ9_max_f86c9 11 = .ok (.lreturn, 1) := by decide +kernel
theorem dJ9_min_7cf53_0 : decode cJ9_min_7cf53 0 = .ok (.iload_n 0, 1) := by decide +kernel
theorem dJ9_min_7cf53_1 : decode cJ9_min_7cf53 1 = .ok (.iload_n 1, 1) := by decide +kernel
theorem dJ9_min_7cf53_2 : decode cJ9_min_7cf53 2 = .ok (.if_icmp .gt 7, 3) := by decide +kernel
theorem dJ9_min_7cf53_5 : decode cJ9_min_7cf53 5 = .ok (.iload_n 0, 1) := by decide +kernel
theorem dJ9_min_7cf53_6 : decode cJ9_min_7cf53 6 = .ok (.goto 4, 3) := by decide +kernel
theorem dJ9_min_7cf53_9 : decode cJ9_min_7cf53 9 = .ok (.iload_n 1, 1) := by decide +kernel
theorem dJ9_min_7cf53_10 : decode cJ9_min_7cf53 10 = .ok (.ireturn, 1) := by decide +kernel
theorem dJ9_min_f86c9_0 : decode cJ9_min_f86c9 0 = .ok (.lload_n 0, 1) := by decide +kernel
theorem dJ9_min_f86c9_1 : decode cJ9_min_f86c9 1 = .ok (.lload_n 2, 1) := by decide +kernel
theorem dJ9_min_f86c9_2 : decode cJ9_min_f86c9 2 = .ok (.lcmp, 1) := by decide +kernel
theorem dJ9_min_f86c9_3 : decode cJ9_min_f86c9 3 = .ok (.ifCond .gt 7, 3) := by decide +kernel
theorem dJ9_min_f86c9_6 : decode cJ9_min_f86c9 6 = .ok (.lload_n 0, 1) := by decide +kernel
theorem dJ9_min_f86c9_7 : decode cJ9_min_f86c9 7 = .ok (.goto 4, 3) := by decide +kernel
theorem dJ9_min_f86c9_10 : decode cJ9_min_f86c9 10 = .ok (.lload_n 2, 1) := by decide +kernel
theorem dJ9_min_f86c9_11 : decode cJ9_min_f86c9 11 = .ok (.lreturn, 1) := by decide +kernel
theorem dJ0_length_8abf5_0 : decode cJ0_length_8abf5 0 = .ok (.aload_n 0, 1) := by decide +kernel
theorem dJ0_length_8abf5_1 : decode cJ0_length_8abf5 1 = .ok (.getfield 9, 3) := by decide +kernel
theorem dJ0_length_8abf5_4 : decode cJ0_length_8abf5 4 = .ok (.arraylength, 1) := by decide +kernel
theorem dJ0_length_8abf5_5 : decode cJ0_length_8abf5 5 = .ok (.aload_n 0, 1) := by decide +kernel
theorem dJ0_length_8abf5_6 : decode cJ0_length_8abf5 6 = .ok (.invokevirtual 335, 3) := by decide +kernel
theorem dJ0_length_8abf5_9 : decode cJ0_length_8abf5 9 = .ok (.ishr, 1) := by decide +kernel
theorem dJ0_length_8abf5_10 : decode cJ0_length_8abf5 10 = .ok (.ireturn, 1) := by decide +kernel
theorem dJ0_indexOf_0f7a4_0 : decode cJ0_indexOf_0f7a4 0 = .ok (.aload_n 0, 1) := by decide +kernel
theorem dJ0_indexOf_0f7a4_1 : decode cJ0_indexOf_0f7a4 1 = .ok (.iload_n 1, 1) := by decide +kernel
theorem dJ0_indexOf_0f7a4_2 : decode cJ0_indexOf_0f7a4 2 = .ok (.iconst 0, 1) := by decide +kernel
theorem dJ0_indexOf_0f7a4_3 : decode cJ0_indexOf_0f7a4 3 = .ok (.invokevirtual 633, 3) := by decide +kernel
theorem dJ0_indexOf_0f7a4_6 : decode cJ0_indexOf_0f7a4 6 = .ok (.ireturn, 1) := by decide +kernel
theorem dJ0_indexOf_7cf53_0 : decode cJ0_indexOf_7cf53 0 = .ok (.aload_n 0, 1) := by decide +kernel
theorem dJ0_indexOf_7cf53_1 : decode cJ0_indexOf_7cf53 1 = .ok (.invokevirtual 492, 3) := by decide +kernel
theorem dJ0_indexOf_7cf53_4 : decode cJ0_indexOf_7cf53 4 = .ok (.ifCond .eq 19, 3) := by decide +kernel
theorem dJ0_indexOf_7cf53_7 : decode cJ0_indexOf_7cf53 7 = .ok (.aload_n 0, 1) := by decide +kernel
theorem dJ0_indexOf_7cf53_8 : decode cJ0_indexOf_7cf53 8 = .ok (.getfield 9, 3) := by decide +kernel
theorem dJ0_indexOf_7cf53_11 : decode cJ0_indexOf_7cf53 11 = .ok (.iload_n 1, 1) := by decide +kernel
theorem dJ0_indexOf_7cf53_12 : decode cJ0_indexOf_7cf53 12 = .ok (.iload_n 2, 1) := by decide +kernel
theorem dJ0_indexOf_7cf53_13 : decode cJ0_indexOf_7cf53 13 = .ok (.aload_n 0, 1) := by decide +kernel
theorem dJ0_indexOf_7cf53_14 : decode cJ0_indexOf_7cf53 14 = .ok (.invokevirtual 505, 3) := by decide +kernel
theorem dJ0_indexOf_7cf53_17 : decode cJ0_indexOf_7cf53 17 = .ok (.invokestatic 637, 3) := by decide +kernel
theorem dJ0_indexOf_7cf53_20 : decode cJ0_indexOf_7cf53 20 = .ok (.goto 16, 3) := by decide +kernel
theorem dJ0_indexOf_7cf53_23 : decode cJ0_indexOf_7cf53 23 = .ok (.aload_n 0, 1) := by decide +kernel
theorem dJ0_indexOf_7cf53_24 : decode cJ0_indexOf_7cf53 24 = .ok (.getfield 9, 3) := by decide +kernel
theorem dJ0_indexOf_7cf53_27 : decode cJ0_indexOf_7cf53 27 = .ok (.iload_n 1, 1) := by decide +kernel
theorem dJ0_indexOf_7cf53_28 : decode cJ0_indexOf_7cf53 28 = .ok (.iload_n 2, 1) := by decide +kernel
theorem dJ0_indexOf_7cf53_29 : decode cJ0_indexOf_7cf53 29 = .ok (.aload_n 0, 1) := by decide +kernel
theorem dJ0_indexOf_7cf53_30 : decode cJ0_indexOf_7cf53 30 = .ok (.invokevirtual 505, 3) := by decide +kernel
theorem dJ0_indexOf_7cf53_33 : decode cJ0_indexOf_7cf53 33 = .ok (.invokestatic 640, 3) := by decide +kernel
theorem dJ0_indexOf_7cf53_36 : decode cJ0_indexOf_7cf53 36 = .ok (.ireturn, 1) := by decide +kernel
theorem dJ0_coder_7d493_0 : decode cJ0_coder_7d493 0 = .ok (.getstatic 38, 3) := by decide +kernel
theorem dJ0_coder_7d493_3 : decode cJ0_coder_7d493 3 = .ok (.ifCond .eq 10, 3) := by decide +kernel
theorem dJ0_coder_7d493_6 : decode cJ0_coder_7d493 6 = .ok (.aload_n 0, 1) := by decide +kernel
theorem dJ0_coder_7d493_7 : decode cJ0_coder_7d493 7 = .ok (.getfield 15, 3) := by decide +kernel
theorem dJ0_coder_7d493_10 : decode cJ0_coder_7d493 10 = .ok (.goto 4, 3) := by decide +kernel
theorem dJ0_coder_7d493_13 : decode cJ0_coder_7d493 13 = .ok (.iconst 1, 1) := by decide +kernel
theorem dJ0_coder_7d493_14 : decode cJ0_coder_7d493 14 = .ok (.ireturn, 1) := by decide +kernel
theorem dJ0_isLatin1_aae02_0 : decode cJ0_isLatin1_aae02 0 = .ok (.getstatic 38, 3) := by decide +kernel
theorem dJ0_isLatin1_aae02_3 : decode cJ0_isLatin1_aae02 3 = .ok (.ifCond .eq 14, 3) := by decide +kernel
theorem dJ0_isLatin1_aae02_6 : decode cJ0_isLatin1_aae02 6 = .ok (.aload_n 0, 1) := by decide +kernel
theorem dJ0_isLatin1_aae02_7 : decode cJ0_isLatin1_aae02 7 = .ok (.getfield 15, 3) := by decide +kernel
theorem dJ0_isLatin1_aae02_10 : decode cJ0_isLatin1_aae02 10 = .ok (.ifCond .ne 7, 3) := by decide +kernel
theorem dJ0_isLatin1_aae02_13 : decode cJ0_isLatin1_aae02 13 = .ok (.iconst 1, 1) := by decide +kernel
theorem dJ0_isLatin1_aae02_14 : decode cJ0_isLatin1_aae02 14 = .ok (.goto 4, 3) := by decide +kernel
theorem dJ0_isLatin1_aae02_17 : decode cJ0_isLatin1_aae02 17 = .ok (.iconst 0, 1) := by decide +kernel
theorem dJ0_isLatin1_aae02_18 : decode cJ0_isLatin1_aae02 18 = .ok (.ireturn, 1) := by decide +kernel
theorem dJ0_checkBoundsBeginEnd_23922_0 : decode cJ0_checkBoundsBeginEnd_23922 0 = .ok (.iload_n 0, 1) := by decide +kernel
theorem dJ0_checkBoundsBeginEnd_23922_1 : decode cJ0_checkBoundsBeginEnd_23922 1 = .ok (.iload_n 1, 1) := by decide +kernel
theorem dJ0_checkBoundsBeginEnd_23922_2 : decode cJ0_checkBoundsBeginEnd_23922 2 = .ok (.iload_n 2, 1) := by decide +kernel
theorem dJ0_checkBoundsBeginEnd_23922_3 : decode cJ0_checkBoundsBeginEnd_23922 3 = .ok (.getstatic 1053, 3) := by decide +kernel
theorem dJ0_checkBoundsBeginEnd_23922_6 : decode cJ0_checkBoundsBeginEnd_23922 6 = .ok (.invokestatic 1062, 3) := by decide +kernel
theorem dJ0_checkBoundsBeginEnd_23922_9 : decode cJ0_checkBoundsBeginEnd_23922 9 = .ok (.pop, 1) := by decide +kernel
theorem dJ0_checkBoundsBeginEnd_23922_10 : decode cJ0_checkBoundsBeginEnd_23922 10 = .ok (.return_, 1) := by decide +kernel
theorem dJ1_canEncode_9a6ad_0 : decode cJ1_canEncode_9a6ad 0 = .ok (.iload_n 0, 1) := by decide +kernel
theorem dJ1_canEncode_9a6ad_1 : decode cJ1_canEncode_9a6ad 1 = .ok (.ifCond .lt 14, 3) := by decide +kernel
theorem dJ1_canEncode_9a6ad_4 : decode cJ1_canEncode_9a6ad 4 = .ok (.iload_n 0, 1) := by decide +kernel
theorem dJ1_canEncode_9a6ad_5 : decode cJ1_canEncode_9a6ad 5 = .ok (.sipush 255, 3) := by decide +kernel
theorem dJ1_canEncode_9a6ad_8 : decode cJ1_canEncode_9a6ad 8 = .ok (.if_icmp .gt 7, 3) := by decide +kernel
theorem dJ1_canEncode_9a6ad_11 : decode cJ1_canEncode_9a6ad 11 = .ok (.iconst 1, 1) := by decide +kernel
theorem dJ1_canEncode_9a6ad_12 : decode cJ1_canEncode_9a6ad 12 = .ok (.goto 4, 3) := by decide +kernel
theorem dJ1_canEncode_9a6ad_15 : decode cJ1_canEncode_9a6ad 15 = .ok (.iconst 0, 1) := by decide +kernel
theorem dJ1_canEncode_9a6ad_16 : decode cJ1_canEncode_9a6ad 16 = .ok (.ireturn, 1) := by decide +kernel
theorem dJ1_indexOf_4cfef_0 : decode cJ1_indexOf_4cfef 0 = .ok (.iload_n 1, 1) := by decide +kernel
theorem dJ1_indexOf_4cfef_1 : decode cJ1_indexOf_4cfef 1 = .ok (.invokestatic 88, 3) := by decide +kernel
theorem dJ1_indexOf_4cfef_4 : decode cJ1_indexOf_4cfef 4 = .ok (.ifCond .ne 5, 3) := by decide +kernel
theorem dJ1_indexOf_4cfef_7 : decode cJ1_indexOf_4cfef 7 = .ok (.iconst (-1), 1) := by decide +kernel
theorem dJ1_indexOf_4cfef_8 : decode cJ1_indexOf_4cfef 8 = .ok (.ireturn, 1) := by decide +kernel
theorem dJ1_indexOf_4cfef_9 : decode cJ1_indexOf_4cfef 9 = .ok (.iload_n 2, 1) := by decide +kernel
theorem dJ1_indexOf_4cfef_10 : decode cJ1_indexOf_4cfef 10 = .ok (.iconst 0, 1) := by decide +kernel
theorem dJ1_indexOf_4cfef_11 : decode cJ1_indexOf_4cfef 11 = .ok (.invokestatic 92, 3) := by decide +kernel
theorem dJ1_indexOf_4cfef_14 : decode cJ1_indexOf_4cfef 14 = .ok (.istore_n 2, 1) := by decide +kernel
theorem dJ1_indexOf_4cfef_15 : decode cJ1_indexOf_4cfef 15 = .ok (.iload_n 3, 1) := by decide +kernel
theorem dJ1_indexOf_4cfef_16 : decode cJ1_indexOf_4cfef 16 = .ok (.aload_n 0, 1) := by decide +kernel
theorem dJ1_indexOf_4cfef_17 : decode cJ1_indexOf_4cfef 17 = .ok (.arraylength, 1) := by decide +kernel
theorem dJ1_indexOf_4cfef_18 : decode cJ1_indexOf_4cfef 18 = .ok (.invokestatic 38, 3) := by decide +kernel
theorem dJ1_indexOf_4cfef_21 : decode cJ1_indexOf_4cfef 21 = .ok (.istore_n 3, 1) := by decide +kernel
theorem dJ1_indexOf_4cfef_22 : decode cJ1_indexOf_4cfef 22 = .ok (.iload_n 2, 1) := by decide +kernel
theorem dJ1_indexOf_4cfef_23 : decode cJ1_indexOf_4cfef 23 = .ok (.iload_n 3, 1) := by decide +kernel
theorem dJ1_indexOf_4cfef_24 : decode cJ1_indexOf_4cfef 24 = .ok (.if_icmp .lt 5, 3) := by decide +kernel
theorem dJ1_indexOf_4cfef_27 : decode cJ1_indexOf_4cfef 27 = .ok (.iconst (-1), 1) := by decide +kernel
theorem dJ1_indexOf_4cfef_28 : decode cJ1_indexOf_4cfef 28 = .ok (.ireturn, 1) := by decide +kernel
theorem dJ1_indexOf_4cfef_29 : decode cJ1_indexOf_4cfef 29 = .ok (.aload_n 0, 1) := by decide +kernel
theorem dJ1_indexOf_4cfef_30 : decode cJ1_indexOf_4cfef 30 = .ok (.iload_n 1, 1) := by decide +kernel
theorem dJ1_indexOf_4cfef_31 : decode cJ1_indexOf_4cfef 31 = .ok (.iload_n 2, 1) := by decide +kernel
theorem dJ1_indexOf_4cfef_32 : decode cJ1_indexOf_4cfef 32 = .ok (.iload_n 3, 1) := by decide +kernel
theorem dJ1_indexOf_4cfef_33 : decode cJ1_indexOf_4cfef 33 = .ok (.invokestatic 95, 3) := by decide +kernel
theorem dJ1_indexOf_4cfef_36 : decode cJ1_indexOf_4cfef 36 = .ok (.ireturn, 1) := by decide +kernel
theorem dJ1_indexOfChar_4cfef_0 : decode cJ1_indexOfChar_4cfef 0 = .ok (.iload_n 1, 1) := by decide +kernel
theorem dJ1_indexOfChar_4cfef_1 : decode cJ1_indexOfChar_4cfef 1 = .ok (.i2b, 1) := by decide +kernel
theorem dJ1_indexOfChar_4cfef_2 : decode cJ1_indexOfChar_4cfef 2 = .ok (.istore 4, 2) := by decide +kernel
theorem dJ1_indexOfChar_4cfef_4 : decode cJ1_indexOfChar_4cfef 4 = .ok (.iload_n 2, 1) := by decide +kernel
theorem dJ1_indexOfChar_4cfef_5 : decode cJ1_indexOfChar_4cfef 5 = .ok (.istore 5, 2) := by decide +kernel
theorem dJ1_indexOfChar_4cfef_7 : decode cJ1_indexOfChar_4cfef 7 = .ok (.iload 5, 2) := by decide +kernel
theorem dJ1_indexOfChar_4cfef_9 : decode cJ1_indexOfChar_4cfef 9 = .ok (.iload_n 3, 1) := by decide +kernel
theorem dJ1_indexOfChar_4cfef_10 : decode cJ1_indexOfChar_4cfef 10 = .ok (.if_icmp .ge 21, 3) := by decide +kernel
theorem dJ1_indexOfChar_4cfef_13 : decode cJ1_indexOfChar_4cfef 13 = .ok (.aload_n 0, 1) := by decide +kernel
theorem dJ1_indexOfChar_4cfef_14 : decode cJ1_indexOfChar_4cfef 14 = .ok (.iload 5, 2) := by decide +kernel
theorem dJ1_indexOfChar_4cfef_16 : decode cJ1_indexOfChar_4cfef 16 = .ok (.baload, 1) := by decide +kernel
theorem dJ1_indexOfChar_4cfef_17 : decode cJ1_indexOfChar_4cfef 17 = .ok (.iload 4, 2) := by decide +kernel
theorem dJ1_indexOfChar_4cfef_19 : decode cJ1_indexOfChar_4cfef 19 = .ok (.if_icmp .ne 6, 3) := by decide +kernel
theorem dJ1_indexOfChar_4cfef_22 : decode cJ1_indexOfChar_4cfef 22 = .ok (.iload 5, 2) := by decide +kernel
theorem dJ1_indexOfChar_4cfef_24 : decode cJ1_indexOfChar_4cfef 24 = .ok (.ireturn, 1) := by decide +kernel
theorem dJ1_indexOfChar_4cfef_25 : decode cJ1_indexOfChar_4cfef 25 = .ok (.iinc 5 1, 3) := by decide +kernel
theorem dJ1_indexOfChar_4cfef_28 : decode cJ1_indexOfChar_4cfef 28 = .ok (.goto (-21), 3) := by decide +kernel
theorem dJ1_indexOfChar_4cfef_31 : decode cJ1_indexOfChar_4cfef 31 = .ok (.iconst (-1), 1) := by decide +kernel
theorem dJ1_indexOfChar_4cfef_32 : decode cJ1_indexOfChar_4cfef 32 = .ok (.ireturn, 1) := by decide +kernel
theorem dJ2_getChar_3b067_0 : decode cJ2_getChar_3b067 0 = .ok (.getstatic 44, 3) := by decide +kernel
theorem dJ2_getChar_3b067_3 : decode cJ2_getChar_3b067 3 = .ok (.ifCond .ne 25, 3) := by decide +kernel
theorem dJ2_getChar_3b067_6 : decode cJ2_getChar_3b067 6 = .ok (.iload_n 1, 1) := by decide +kernel
theorem dJ2_getChar_3b067_7 : decode cJ2_getChar_3b067 7 = .ok (.ifCond .lt 11, 3) := by decide +kernel
theorem dJ2_getChar_3b067_10 : decode cJ2_getChar_3b067 10 = .ok (.iload_n 1, 1) := by decide +kernel
theorem dJ2_getChar_3b067_11 : decode cJ2_getChar_3b067 11 = .ok (.aload_n 0, 1) := by decide +kernel
theorem dJ2_getChar_3b067_12 : decode cJ2_getChar_3b067 12 = .ok (.invokestatic 48, 3) := by decide +kernel
theorem dJ2_getChar_3b067_15 : decode cJ2_getChar_3b067 15 = .ok (.if_icmp .lt 13, 3) := by decide +kernel
theorem dJ2_getChar_3b067_18 : decode cJ2_getChar_3b067 18 = .ok (.new 52, 3) := by decide +kernel
theorem dJ2_getChar_3b067_21 : decode cJ2_getChar_3b067 21 = .ok (.dup, 1) := by decide +kernel
theorem dJ2_getChar_3b067_22 : decode cJ2_getChar_3b067 22 = .ok (.ldc 54, 2) := by decide +kernel
theorem dJ2_getChar_3b067_24 : decode cJ2_getChar_3b067 24 = .ok (.invokespecial 56, 3) := by decide +kernel
theorem dJ2_getChar_3b067_27 : decode cJ2_getChar_3b067 27 = .ok (.athrow, 1) := by decide +kernel
theorem dJ2_getChar_3b067_28 : decode cJ2_getChar_3b067 28 = .ok (.iload_n 1, 1) := by decide +kernel
theorem dJ2_getChar_3b067_29 : decode cJ2_getChar_3b067 29 = .ok (.iconst 1, 1) := by decide +kernel
theorem dJ2_getChar_3b067_30 : decode cJ2_getChar_3b067 30 = .ok (.ishl, 1) := by decide +kernel
theorem dJ2_getChar_3b067_31 : decode cJ2_getChar_3b067 31 = .ok (.istore_n 1, 1) := by decide +kernel
theorem dJ2_getChar_3b067_32 : decode cJ2_getChar_3b067 32 = .ok (.aload_n 0, 1) := by decide +kernel
theorem dJ2_getChar_3b067_33 : decode cJ2_getChar_3b067 33 = .ok (.iload_n 1, 1) := by decide +kernel
theorem dJ2_getChar_3b067_34 : decode cJ2_getChar_3b067 34 = .ok (.iinc 1 1, 3) := by decide +kernel
theorem dJ2_getChar_3b067_37 : decode cJ2_getChar_3b067 37 = .ok (.baload, 1) := by decide +kernel
theorem dJ2_getChar_3b067_38 : decode cJ2_getChar_3b067 38 = .ok (.sipush 255, 3) := by decide +kernel
theorem dJ2_getChar_3b067_41 : decode cJ2_getChar_3b067 41 = .ok (.iand, 1) := by decide +kernel
theorem dJ2_getChar_3b067_42 : decode cJ2_getChar_3b067 42 = .ok (.getstatic 59, 3) := by decide +kernel
theorem dJ2_getChar_3b067_45 : decode cJ2_getChar_3b067 45 = .ok (.ishl, 1) := by decide +kernel
theorem dJ2_getChar_3b067_46 : decode cJ2_getChar_3b067 46 = .ok (.aload_n 0, 1) := by decide +kernel
theorem dJ2_getChar_3b067_47 : decode cJ2_getChar_3b067 47 = .ok (.iload_n 1, 1) := by decide +kernel
theorem dJ2_getChar_3b067_48 : decode cJ2_getChar_3b067 48 = .ok (.baload, 1) := by decide +kernel
theorem dJ2_getChar_3b067_49 : decode cJ2_getChar_3b067 49 = .ok (.sipush 255, 3) := by decide +kernel
theorem dJ2_getChar_3b067_52 : decode cJ2_getChar_3b067 52 = .ok (.iand, 1) := by decide +kernel
theorem dJ2_getChar_3b067_53 : decode cJ2_getChar_3b067 53 = .ok (.getstatic 63, 3) := by decide +kernel
theorem dJ2_getChar_3b067_56 : decode cJ2_getChar_3b067 56 = .ok (.ishl, 1) := by decide +kernel
theorem dJ2_getChar_3b067_57 : decode cJ2_getChar_3b067 57 = .ok (.ior, 1) := by decide +kernel
theorem dJ2_getChar_3b067_58 : decode cJ2_getChar_3b067 58 = .ok (.i2c, 1) := by decide +kernel
theorem dJ2_getChar_3b067_59 : decode cJ2_getChar_3b067 59 = .ok (.ireturn, 1) := by decide +kernel
theorem dJ2_length_9d52b_0 : decode cJ2_length_9d52b 0 = .ok (.aload_n 0, 1) := by decide +kernel
theorem dJ2_length_9d52b_1 : decode cJ2_length_9d52b 1 = .ok (.arraylength, 1) := by decide +kernel
theorem dJ2_length_9d52b_2 : decode cJ2_length_9d52b 2 = .ok (.iconst 1, 1) := by decide +kernel
theorem dJ2_length_9d52b_3 : decode cJ2_length_9d52b 3 = .ok (.ishr, 1) := by decide +kernel
theorem dJ2_length_9d52b_4 : decode cJ2_length_9d52b 4 = .ok (.ireturn, 1) := by decide +kernel
theorem dJ2_indexOf_4cfef_0 : decode cJ2_indexOf_4cfef 0 = .ok (.iload_n 2, 1) := by decide +kernel
theorem dJ2_indexOf_4cfef_1 : decode cJ2_indexOf_4cfef 1 = .ok (.iconst 0, 1) := by decide +kernel
theorem dJ2_indexOf_4cfef_2 : decode cJ2_indexOf_4cfef 2 = .ok (.invokestatic 224, 3) := by decide +kernel
theorem dJ2_indexOf_4cfef_5 : decode cJ2_indexOf_4cfef 5 = .ok (.istore_n 2, 1) := by decide +kernel
theorem dJ2_indexOf_4cfef_6 : decode cJ2_indexOf_4cfef 6 = .ok (.iload_n 3, 1) := by decide +kernel
theorem dJ2_indexOf_4cfef_7 : decode cJ2_indexOf_4cfef 7 = .ok (.aload_n 0, 1) := by decide +kernel
theorem dJ2_indexOf_4cfef_8 : decode cJ2_indexOf_4cfef 8 = .ok (.arraylength, 1) := by decide +kernel
theorem dJ2_indexOf_4cfef_9 : decode cJ2_indexOf_4cfef 9 = .ok (.iconst 1, 1) := by decide +kernel
theorem dJ2_indexOf_4cfef_10 : decode cJ2_indexOf_4cfef 10 = .ok (.ishr, 1) := by decide +kernel
theorem dJ2_indexOf_4cfef_11 : decode cJ2_indexOf_4cfef 11 = .ok (.invokestatic 183, 3) := by decide +kernel
theorem dJ2_indexOf_4cfef_14 : decode cJ2_indexOf_4cfef 14 = .ok (.istore_n 3, 1) := by decide +kernel
theorem dJ2_indexOf_4cfef_15 : decode cJ2_indexOf_4cfef 15 = .ok (.iload_n 2, 1) := by decide +kernel
theorem dJ2_indexOf_4cfef_16 : decode cJ2_indexOf_4cfef 16 = .ok (.iload_n 3, 1) := by decide +kernel
theorem dJ2_indexOf_4cfef_17 : decode cJ2_indexOf_4cfef 17 = .ok (.if_icmp .lt 5, 3) := by decide +kernel
theorem dJ2_indexOf_4cfef_20 : decode cJ2_indexOf_4cfef 20 = .ok (.iconst (-1), 1) := by decide +kernel
theorem dJ2_indexOf_4cfef_21 : decode cJ2_indexOf_4cfef 21 = .ok (.ireturn, 1) := by decide +kernel
theorem dJ2_indexOf_4cfef_22 : decode cJ2_indexOf_4cfef 22 = .ok (.iload_n 1, 1) := by decide +kernel
theorem dJ2_indexOf_4cfef_23 : decode cJ2_indexOf_4cfef 23 = .ok (.ldc 227, 2) := by decide +kernel
theorem dJ2_indexOf_4cfef_25 : decode cJ2_indexOf_4cfef 25 = .ok (.if_icmp .ge 11, 3) := by decide +kernel
theorem dJ2_indexOf_4cfef_28 : decode cJ2_indexOf_4cfef 28 = .ok (.aload_n 0, 1) := by decide +kernel
theorem dJ2_indexOf_4cfef_29 : decode cJ2_indexOf_4cfef 29 = .ok (.iload_n 1, 1) := by decide +kernel
theorem dJ2_indexOf_4cfef_30 : decode cJ2_indexOf_4cfef 30 = .ok (.iload_n 2, 1) := by decide +kernel
theorem dJ2_indexOf_4cfef_31 : decode cJ2_indexOf_4cfef 31 = .ok (.iload_n 3, 1) := by decide +kernel
theorem dJ2_indexOf_4cfef_32 : decode cJ2_indexOf_4cfef 32 = .ok (.invokestatic 228, 3) := by decide +kernel
theorem dJ2_indexOf_4cfef_35 : decode cJ2_indexOf_4cfef 35 = .ok (.ireturn, 1) := by decide +kernel
theorem dJ2_indexOf_4cfef_36 : decode cJ2_indexOf_4cfef 36 = .ok (.aload_n 0, 1) := by decide +kernel
theorem dJ2_indexOf_4cfef_37 : decode cJ2_indexOf_4cfef 37 = .ok (.iload_n 1, 1) := by decide +kernel
theorem dJ2_indexOf_4cfef_38 : decode cJ2_indexOf_4cfef 38 = .ok (.iload_n 2, 1) := by decide +kernel
theorem dJ2_indexOf_4cfef_39 : decode cJ2_indexOf_4cfef 39 = .ok (.iload_n 3, 1) := by decide +kernel
theorem dJ2_indexOf_4cfef_40 : decode cJ2_indexOf_4cfef 40 = .ok (.invokestatic 232, 3) := by decide +kernel
theorem dJ2_indexOf_4cfef_43 : decode cJ2_indexOf_4cfef 43 = .ok (.ireturn, 1) := by decide +kernel
theorem dJ2_indexOfChar_4cfef_0 : decode cJ2_indexOfChar_4cfef 0 = .ok (.iload_n 2, 1) := by decide +kernel
theorem dJ2_indexOfChar_4cfef_1 : decode cJ2_indexOfChar_4cfef 1 = .ok (.iload_n 3, 1) := by decide +kernel
theorem dJ2_indexOfChar_4cfef_2 : decode cJ2_indexOfChar_4cfef 2 = .ok (.aload_n 0, 1) := by decide +kernel
theorem dJ2_indexOfChar_4cfef_3 : decode cJ2_indexOfChar_4cfef 3 = .ok (.invokestatic 96, 3) := by decide +kernel
theorem dJ2_indexOfChar_4cfef_6 : decode cJ2_indexOfChar_4cfef 6 = .ok (.aload_n 0, 1) := by decide +kernel
theorem dJ2_indexOfChar_4cfef_7 : decode cJ2_indexOfChar_4cfef 7 = .ok (.iload_n 1, 1) := by decide +kernel
theorem dJ2_indexOfChar_4cfef_8 : decode cJ2_indexOfChar_4cfef 8 = .ok (.iload_n 2, 1) := by decide +kernel
theorem dJ2_indexOfChar_4cfef_9 : decode cJ2_indexOfChar_4cfef 9 = .ok (.iload_n 3, 1) := by decide +kernel
theorem dJ2_indexOfChar_4cfef_10 : decode cJ2_indexOfChar_4cfef 10 = .ok (.invokestatic 244, 3) := by decide +kernel
theorem dJ2_indexOfChar_4cfef_13 : decode cJ2_indexOfChar_4cfef 13 = .ok (.ireturn, 1) := by decide +kernel
theorem dJ2_indexOfCharUnsafe_4cfef_0 : decode cJ2_indexOfCharUnsafe_4cfef 0 = .ok (.iload_n 2, 1) := by decide +kernel
theorem dJ2_indexOfCharUnsafe_4cfef_1 : decode cJ2_indexOfCharUnsafe_4cfef 1 = .ok (.istore 4, 2) := by decide +kernel
theorem dJ2_indexOfCharUnsafe_4cfef_3 : decode cJ2_indexOfCharUnsafe_4cfef 3 = .ok (.iload 4, 2) := by decide +kernel
theorem dJ2_indexOfCharUnsafe_4cfef_5 : decode cJ2_indexOfCharUnsafe_4cfef 5 = .ok (.iload_n 3, 1) := by decide +kernel
theorem dJ2_indexOfCharUnsafe_4cfef_6 : decode cJ2_indexOfCharUnsafe_4cfef 6 = .ok (.if_icmp .ge 22, 3) := by decide +kernel
theorem dJ2_indexOfCharUnsafe_4cfef_9 : decode cJ2_indexOfCharUnsafe_4cfef 9 = .ok (.aload_n 0, 1) := by decide +kernel
theorem dJ2_indexOfCharUnsafe_4cfef_10 : decode cJ2_indexOfCharUnsafe_4cfef 10 = .ok (.iload 4, 2) := by decide +kernel
theorem dJ2_indexOfCharUnsafe_4cfef_12 : decode cJ2_indexOfCharUnsafe_4cfef 12 = .ok (.invokestatic 71, 3) := by decide +kernel
theorem dJ2_indexOfCharUnsafe_4cfef_15 : decode cJ2_indexOfCharUnsafe_4cfef 15 = .ok (.iload_n 1, 1) := by decide +kernel
theorem dJ2_indexOfCharUnsafe_4cfef_16 : decode cJ2_indexOfCharUnsafe_4cfef 16 = .ok (.if_icmp .ne 6, 3) := by decide +kernel
theorem dJ2_indexOfCharUnsafe_4cfef_19 : decode cJ2_indexOfCharUnsafe_4cfef 19 = .ok (.iload 4, 2) := by decide +kernel
theorem dJ2_indexOfCharUnsafe_4cfef_21 : decode cJ2_indexOfCharUnsafe_4cfef 21 = .ok (.ireturn, 1) := by decide +kernel
theorem dJ2_indexOfCharUnsafe_4cfef_22 : decode cJ2_indexOfCharUnsafe_4cfef 22 = .ok (.iinc 4 1, 3) := by decide +kernel
theorem dJ2_indexOfCharUnsafe_4cfef_25 : decode cJ2_indexOfCharUnsafe_4cfef 25 = .ok (.goto (-22), 3) := by decide +kernel
theorem dJ2_indexOfCharUnsafe_4cfef_28 : decode cJ2_indexOfCharUnsafe_4cfef 28 = .ok (.iconst (-1), 1) := by decide +kernel
theorem dJ2_indexOfCharUnsafe_4cfef_29 : decode cJ2_indexOfCharUnsafe_4cfef 29 = .ok (.ireturn, 1) := by decide +kernel
theorem dJ2_indexOfSupplementary_4cfef_0 : decode cJ2_indexOfSupplementary_4cfef 0 = .ok (.iload_n 1, 1) := by decide +kernel
theorem dJ2_indexOfSupplementary_4cfef_1 : decode cJ2_indexOfSupplementary_4cfef 1 = .ok (.invokestatic 164, 3) := by decide +kernel
theorem dJ2_indexOfSupplementary_4cfef_4 : decode cJ2_indexOfSupplementary_4cfef 4 = .ok (.ifCond .eq 65, 3) := by decide +kernel
theorem dJ2_indexOfSupplementary_4cfef_7 : decode cJ2_indexOfSupplementary_4cfef 7 = .ok (.iload_n 1, 1) := by decide +kernel
theorem dJ2_indexOfSupplementary_4cfef_8 : decode cJ2_indexOfSupplementary_4cfef 8 = .ok (.invokestatic 157, 3) := by decide +kernel
theorem dJ2_indexOfSupplementary_4cfef_11 : decode cJ2_indexOfSupplementary_4cfef 11 = .ok (.istore 4, 2) := by decide +kernel
theorem dJ2_indexOfSupplementary_4cfef_13 : decode cJ2_indexOfSupplementary_4cfef 13 = .ok (.iload_n 1, 1) := by decide +kernel
theorem dJ2_indexOfSupplementary_4cfef_14 : decode cJ2_indexOfSupplementary_4cfef 14 = .ok (.invokestatic 161, 3) := by decide +kernel
theorem dJ2_indexOfSupplementary_4cfef_17 : decode cJ2_indexOfSupplementary_4cfef 17 = .ok (.istore 5, 2) := by decide +kernel
theorem dJ2_indexOfSupplementary_4cfef_19 : decode cJ2_indexOfSupplementary_4cfef 19 = .ok (.iload_n 2, 1) := by decide +kernel
theorem dJ2_indexOfSupplementary_4cfef_20 : decode cJ2_indexOfSupplementary_4cfef 20 = .ok (.iload_n 3, 1) := by decide +kernel
theorem dJ2_indexOfSupplementary_4cfef_21 : decode cJ2_indexOfSupplementary_4cfef 21 = .ok (.aload_n 0, 1) := by decide +kernel
theorem dJ2_indexOfSupplementary_4cfef_22 : decode cJ2_indexOfSupplementary_4cfef 22 = .ok (.invokestatic 96, 3) := by decide +kernel
theorem dJ2_indexOfSupplementary_4cfef_25 : decode cJ2_indexOfSupplementary_4cfef 25 = .ok (.iload_n 2, 1) := by decide +kernel
theorem dJ2_indexOfSupplementary_4cfef_26 : decode cJ2_indexOfSupplementary_4cfef 26 = .ok (.istore 6, 2) := by decide +kernel
theorem dJ2_indexOfSupplementary_4cfef_28 : decode cJ2_indexOfSupplementary_4cfef 28 = .ok (.iload 6, 2) := by decide +kernel
theorem dJ2_indexOfSupplementary_4cfef_30 : decode cJ2_indexOfSupplementary_4cfef 30 = .ok (.iload_n 3, 1) := by decide +kernel
theorem dJ2_indexOfSupplementary_4cfef_31 : decode cJ2_indexOfSupplementary_4cfef 31 = .ok (.iconst 1, 1) := by decide +kernel
theorem dJ2_indexOfSupplementary_4cfef_32 : decode cJ2_indexOfSupplementary_4cfef 32 = .ok (.isub, 1) := by decide +kernel
theorem dJ2_indexOfSupplementary_4cfef_33 : decode cJ2_indexOfSupplementary_4cfef 33 = .ok (.if_icmp .ge 36, 3) := by decide +kernel
theorem dJ2_indexOfSupplementary_4cfef_36 : decode cJ2_indexOfSupplementary_4cfef 36 = .ok (.aload_n 0, 1) := by decide +kernel
theorem dJ2_indexOfSupplementary_4cfef_37 : decode cJ2_indexOfSupplementary_4cfef 37 = .ok (.iload 6, 2) := by decide +kernel
theorem dJ2_indexOfSupplementary_4cfef_39 : decode cJ2_indexOfSupplementary_4cfef 39 = .ok (.invokestatic 71, 3) := by decide +kernel
theorem dJ2_indexOfSupplementary_4cfef_42 : decode cJ2_indexOfSupplementary_4cfef 42 = .ok (.iload 4, 2) := by decide +kernel
theorem dJ2_indexOfSupplementary_4cfef_44 : decode cJ2_indexOfSupplementary_4cfef 44 = .ok (.if_icmp .ne 19, 3) := by decide +kernel
theorem dJ2_indexOfSupplementary_4cfef_47 : decode cJ2_indexOfSupplementary_4cfef 47 = .ok (.aload_n 0, 1) := by decide +kernel
theorem dJ2_indexOfSupplementary_4cfef_48 : decode cJ2_indexOfSupplementary_4cfef 48 = .ok (.iload 6, 2) := by decide +kernel
theorem dJ2_indexOfSupplementary_4cfef_50 : decode cJ2_indexOfSupplementary_4cfef 50 = .ok (.iconst 1, 1) := by decide +kernel
theorem dJ2_indexOfSupplementary_4cfef_51 : decode cJ2_indexOfSupplementary_4cfef 51 = .ok (.iadd, 1) := by decide +kernel
theorem dJ2_indexOfSupplementary_4cfef_52 : decode cJ2_indexOfSupplementary_4cfef 52 = .ok (.invokestatic 71, 3) := by decide +kernel
theorem dJ2_indexOfSupplementary_4cfef_55 : decode cJ2_indexOfSupplementary_4cfef 55 = .ok (.iload 5, 2) := by decide +kernel
theorem dJ2_indexOfSupplementary_4cfef_57 : decode cJ2_indexOfSupplementary_4cfef 57 = .ok (.if_icmp .ne 6, 3) := by decide +kernel
theorem dJ2_indexOfSupplementary_4cfef_60 : decode cJ2_indexOfSupplementary_4cfef 60 = .ok (.iload 6, 2) := by decide +kernel
theorem dJ2_indexOfSupplementary_4cfef_62 : decode cJ2_indexOfSupplementary_4cfef 62 = .ok (.ireturn, 1) := by decide +kernel
theorem dJ2_indexOfSupplementary_4cfef_63 : decode cJ2_indexOfSupplementary_4cfef 63 = .ok (.iinc 6 1, 3) := by decide +kernel
theorem dJ2_indexOfSupplementary_4cfef_66 : decode cJ2_indexOfSupplementary_4cfef 66 = .ok (.goto (-38), 3) := by decide +kernel
theorem dJ2_indexOfSupplementary_4cfef_69 : decode cJ2_indexOfSupplementary_4cfef 69 = .ok (.iconst (-1), 1) := by decide +kernel
theorem dJ2_indexOfSupplementary_4cfef_70 : decode cJ2_indexOfSupplementary_4cfef 70 = .ok (.ireturn, 1) := by decide +kernel
theorem dJ2_checkBoundsBeginEnd_d044e_0 : decode cJ2_checkBoundsBeginEnd_d044e 0 = .ok (.iload_n 0, 1) := by decide +kernel
theorem dJ2_checkBoundsBeginEnd_d044e_1 : decode cJ2_checkBoundsBeginEnd_d044e 1 = .ok (.iload_n 1, 1) := by decide +kernel
theorem dJ2_checkBoundsBeginEnd_d044e_2 : decode cJ2_checkBoundsBeginEnd_d044e 2 = .ok (.aload_n 2, 1) := by decide +kernel
theorem dJ2_checkBoundsBeginEnd_d044e_3 : decode cJ2_checkBoundsBeginEnd_d044e 3 = .ok (.invokestatic 48, 3) := by decide +kernel
theorem dJ2_checkBoundsBeginEnd_d044e_6 : decode cJ2_checkBoundsBeginEnd_d044e 6 = .ok (.invokestatic 241, 3) := by decide +kernel
theorem dJ2_checkBoundsBeginEnd_d044e_9 : decode cJ2_checkBoundsBeginEnd_d044e 9 = .ok (.return_, 1) := by decide +kernel
theorem dJ7_fill_53178_0 : decode cJ7_fill_53178 0 = .ok (.iconst 0, 1) := by decide +kernel
theorem dJ7_fill_53178_1 : decode cJ7_fill_53178 1 = .ok (.istore_n 2, 1) := by decide +kernel
theorem dJ7_fill_53178_2 : decode cJ7_fill_53178 2 = .ok (.aload_n 0, 1) := by decide +kernel
theorem dJ7_fill_53178_3 : decode cJ7_fill_53178 3 = .ok (.arraylength, 1) := by decide +kernel
theorem dJ7_fill_53178_4 : decode cJ7_fill_53178 4 = .ok (.istore_n 3, 1) := by decide +kernel
theorem dJ7_fill_53178_5 : decode cJ7_fill_53178 5 = .ok (.iload_n 2, 1) := by decide +kernel
theorem dJ7_fill_53178_6 : decode cJ7_fill_53178 6 = .ok (.iload_n 3, 1) := by decide +kernel
theorem dJ7_fill_53178_7 : decode cJ7_fill_53178 7 = .ok (.if_icmp .ge 13, 3) := by decide +kernel
theorem dJ7_fill_53178_10 : decode cJ7_fill_53178 10 = .ok (.aload_n 0, 1) := by decide +kernel
theorem dJ7_fill_53178_11 : decode cJ7_fill_53178 11 = .ok (.iload_n 2, 1) := by decide +kernel
theorem dJ7_fill_53178_12 : decode cJ7_fill_53178 12 = .ok (.iload_n 1, 1) := by decide +kernel
theorem dJ7_fill_53178_13 : decode cJ7_fill_53178 13 = .ok (.iastore, 1) := by decide +kernel
theorem dJ7_fill_53178_14 : decode cJ7_fill_53178 14 = .ok (.iinc 2 1, 3) := by decide +kernel
theorem dJ7_fill_53178_17 : decode cJ7_fill_53178 17 = .ok (.goto (-12), 3) := by decide +kernel
theorem dJ7_fill_53178_20 : decode cJ7_fill_53178 20 = .ok (.return_, 1) := by decide +kernel
theorem dJ7_copyOf_59c91_0 : decode cJ7_copyOf_59c91 0 = .ok (.iload_n 1, 1) := by decide +kernel
theorem dJ7_copyOf_59c91_1 : decode cJ7_copyOf_59c91 1 = .ok (.aload_n 0, 1) := by decide +kernel
theorem dJ7_copyOf_59c91_2 : decode cJ7_copyOf_59c91 2 = .ok (.arraylength, 1) := by decide +kernel
theorem dJ7_copyOf_59c91_3 : decode cJ7_copyOf_59c91 3 = .ok (.if_icmp .ne 11, 3) := by decide +kernel
theorem dJ7_copyOf_59c91_6 : decode cJ7_copyOf_59c91 6 = .ok (.aload_n 0, 1) := by decide +kernel
theorem dJ7_copyOf_59c91_7 : decode cJ7_copyOf_59c91 7 = .ok (.invokevirtual 316, 3) := by decide +kernel
theorem dJ7_copyOf_59c91_10 : decode cJ7_copyOf_59c91 10 = .ok (.checkcast 317, 3) := by decide +kernel
theorem dJ7_copyOf_59c91_13 : decode cJ7_copyOf_59c91 13 = .ok (.areturn, 1) := by decide +kernel
theorem dJ7_copyOf_59c91_14 : decode cJ7_copyOf_59c91 14 = .ok (.iload_n 1, 1) := by decide +kernel
theorem dJ7_copyOf_59c91_15 : decode cJ7_copyOf_59c91 15 = .ok (.newarray .int, 2) := by decide +kernel
theorem dJ7_copyOf_59c91_17 : decode cJ7_copyOf_59c91 17 = .ok (.astore_n 2, 1) := by decide +kernel
theorem dJ7_copyOf_59c91_18 : decode cJ7_copyOf_59c91 18 = .ok (.aload_n 0, 1) := by decide +kernel
theorem dJ7_copyOf_59c91_19 : decode cJ7_copyOf_59c91 19 = .ok (.iconst 0, 1) := by decide +kernel
theorem dJ7_copyOf_59c91_20 : decode cJ7_copyOf_59c91 20 = .ok (.aload_n 2, 1) := by decide +kernel
theorem dJ7_copyOf_59c91_21 : decode cJ7_copyOf_59c91 21 = .ok (.iconst 0, 1) := by decide +kernel
theorem dJ7_copyOf_59c91_22 : decode cJ7_copyOf_59c91 22 = .ok (.aload_n 0, 1) := by decide +kernel
theorem dJ7_copyOf_59c91_23 : decode cJ7_copyOf_59c91 23 = .ok (.arraylength, 1) := by decide +kernel
theorem dJ7_copyOf_59c91_24 : decode cJ7_copyOf_59c91 24 = .ok (.iload_n 1, 1) := by decide +kernel
theorem dJ7_copyOf_59c91_25 : decode cJ7_copyOf_59c91 25 = .ok (.invokestatic 304, 3) := by decide +kernel
theorem dJ7_copyOf_59c91_28 : decode cJ7_copyOf_59c91 28 = .ok (.invokestatic 150, 3) := by decide +kernel
theorem dJ7_copyOf_59c91_31 : decode cJ7_copyOf_59c91 31 = .ok (.aload_n 2, 1) := by decide +kernel
theorem dJ7_copyOf_59c91_32 : decode cJ7_copyOf_59c91 32 = .ok (.areturn, 1) := by decide +kernel
theorem dJ3_checkFromToIndex_8c36e_0 : decode cJ3_checkFromToIndex_8c36e 0 = .ok (.iload_n 0, 1) := by decide +kernel
theorem dJ3_checkFromToIndex_8c36e_1 : decode cJ3_checkFromToIndex_8c36e 1 = .ok (.ifCond .lt 13, 3) := by decide +kernel
theorem dJ3_checkFromToIndex_8c36e_4 : decode cJ3_checkFromToIndex_8c36e 4 = .ok (.iload_n 0, 1) := by decide +kernel
theorem dJ3_checkFromToIndex_8c36e_5 : decode cJ3_checkFromToIndex_8c36e 5 = .ok (.iload_n 1, 1) := by decide +kernel
theorem dJ3_checkFromToIndex_8c36e_6 : decode cJ3_checkFromToIndex_8c36e 6 = .ok (.if_icmp .gt 8, 3) := by decide +kernel
theorem dJ3_checkFromToIndex_8c36e_9 : decode cJ3_checkFromToIndex_8c36e 9 = .ok (.iload_n 1, 1) := by decide +kernel
theorem dJ3_checkFromToIndex_8c36e_10 : decode cJ3_checkFromToIndex_8c36e 10 = .ok (.iload_n 2, 1) := by decide +kernel
theorem dJ3_checkFromToIndex_8c36e_11 : decode cJ3_checkFromToIndex_8c36e 11 = .ok (.if_icmp .le 11, 3) := by decide +kernel
theorem dJ3_checkFromToIndex_8c36e_14 : decode cJ3_checkFromToIndex_8c36e 14 = .ok (.aload_n 3, 1) := by decide +kernel
theorem dJ3_checkFromToIndex_8c36e_15 : decode cJ3_checkFromToIndex_8c36e 15 = .ok (.iload_n 0, 1) := by decide +kernel
theorem dJ3_checkFromToIndex_8c36e_16 : decode cJ3_checkFromToIndex_8c36e 16 = .ok (.iload_n 1, 1) := by decide +kernel
theorem dJ3_checkFromToIndex_8c36e_17 : decode cJ3_checkFromToIndex_8c36e 17 = .ok (.iload_n 2, 1) := by decide +kernel
theorem dJ3_checkFromToIndex_8c36e_18 : decode cJ3_checkFromToIndex_8c36e 18 = .ok (.invokestatic 99, 3) := by decide +kernel
theorem dJ3_checkFromToIndex_8c36e_21 : decode cJ3_checkFromToIndex_8c36e 21 = .ok (.athrow, 1) := by decide +kernel
theorem dJ3_checkFromToIndex_8c36e_22 : decode cJ3_checkFromToIndex_8c36e 22 = .ok (.iload_n 0, 1) := by decide +kernel
theorem dJ3_checkFromToIndex_8c36e_23 : decode cJ3_checkFromToIndex_8c36e 23 = .ok (.ireturn, 1) := by decide +kernel
