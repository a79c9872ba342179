theorem d_MO_split_186 : decode b_MO_split 186 = .ok (.iload_n 2, 1) := by decide +kernel
theorem d_MO_split_187 : decode b_MO_split 187 = .ok (.iload 7, 2) := by decide +kernel
theorem d_MO_split_189 : decode b_MO_split 189 = .ok (.invokevirtual 183, 3) := by decide +kernel
theorem d_MO_split_192 : decode b_MO_split 192 = .ok (.ireturn, 1) := by decide +kernel
theorem d_MO_partOf_0 : decode b_MO_partOf 0 = .ok (.iload_n 2, 1) := by decide +kernel
theorem d_MO_partOf_1 : decode b_MO_partOf 1 = .ok (.istore 4, 2) := by decide +kernel
theorem d_MO_partOf_3 : decode b_MO_partOf 3 = .ok (.iconst 0, 1) := by decide +kernel
theorem d_MO_partOf_4 : decode b_MO_partOf 4 = .ok (.istore 5, 2) := by decide +kernel
theorem d_MO_partOf_6 : decode b_MO_partOf 6 = .ok (.iconst 0, 1) := by decide +kernel
theorem d_MO_partOf_7 : decode b_MO_partOf 7 = .ok (.istore 6, 2) := by decide +kernel
theorem d_MO_partOf_9 : decode b_MO_partOf 9 = .ok (.iload 6, 2) := by decide +kernel
theorem d_MO_partOf_11 : decode b_MO_partOf 11 = .ok (.iload_n 3, 1) := by decide +kernel
theorem d_MO_partOf_12 : decode b_MO_partOf 12 = .ok (.if_icmp .gt 70, 3) := by decide +kernel
theorem d_MO_partOf_15 : decode b_MO_partOf 15 = .ok (.iconst 1, 1) := by decide +kernel
theorem d_MO_partOf_16 : decode b_MO_partOf 16 = .ok (.istore 5, 2) := by decide +kernel
theorem d_MO_partOf_18 : decode b_MO_partOf 18 = .ok (.aload_n 0, 1) := by decide +kernel
theorem d_MO_partOf_19 : decode b_MO_partOf 19 = .ok (.getfield 64, 3) := by decide +kernel
theorem d_MO_partOf_22 : decode b_MO_partOf 22 = .ok (.bipush 100, 2) := by decide +kernel
theorem d_MO_partOf_24 : decode b_MO_partOf 24 = .ok (.iload 6, 2) := by decide +kernel
theorem d_MO_partOf_26 : decode b_MO_partOf 26 = .ok (.imul, 1) := by decide +kernel
theorem d_MO_partOf_27 : decode b_MO_partOf 27 = .ok (.bipush 100, 2) := by decide +kernel
theorem d_MO_partOf_29 : decode b_MO_partOf 29 = .ok (.iadd, 1) := by decide +kernel
theorem d_MO_partOf_30 : decode b_MO_partOf 30 = .ok (.iload 4, 2) := by decide +kernel
theorem d_MO_partOf_32 : decode b_MO_partOf 32 = .ok (.iadd, 1) := by decide +kernel
theorem d_MO_partOf_33 : decode b_MO_partOf 33 = .ok (.iload 5, 2) := by decide +kernel
theorem d_MO_partOf_35 : decode b_MO_partOf 35 = .ok (.isub, 1) := by decide +kernel
theorem d_MO_partOf_36 : decode b_MO_partOf 36 = .ok (.iaload, 1) := by decide +kernel
theorem d_MO_partOf_37 : decode b_MO_partOf 37 = .ok (.aload_n 0, 1) := by decide +kernel
theorem d_MO_partOf_38 : decode b_MO_partOf 38 = .ok (.iload_n 1, 1) := by decide +kernel
theorem d_MO_partOf_39 : decode b_MO_partOf 39 = .ok (.iload 6, 2) := by decide +kernel
theorem d_MO_partOf_41 : decode b_MO_partOf 41 = .ok (.iload 5, 2) := by decide +kernel
theorem d_MO_partOf_43 : decode b_MO_partOf 43 = .ok (.invokevirtual 176, 3) := by decide +kernel
theorem d_MO_partOf_46 : decode b_MO_partOf 46 = .ok (.iadd, 1) := by decide +kernel
theorem d_MO_partOf_47 : decode b_MO_partOf 47 = .ok (.aload_n 0, 1) := by decide +kernel
theorem d_MO_partOf_48 : decode b_MO_partOf 48 = .ok (.getfield 64, 3) := by decide +kernel
theorem d_MO_partOf_51 : decode b_MO_partOf 51 = .ok (.bipush 100, 2) := by decide +kernel
theorem d_MO_partOf_53 : decode b_MO_partOf 53 = .ok (.iload 6, 2) := by decide +kernel
theorem d_MO_partOf_55 : decode b_MO_partOf 55 = .ok (.imul, 1) := by decide +kernel
theorem d_MO_partOf_56 : decode b_MO_partOf 56 = .ok (.iload 4, 2) := by decide +kernel
theorem d_MO_partOf_58 : decode b_MO_partOf 58 = .ok (.iadd, 1) := by decide +kernel
theorem d_MO_partOf_59 : decode b_MO_partOf 59 = .ok (.iaload, 1) := by decide +kernel
theorem d_MO_partOf_60 : decode b_MO_partOf 60 = .ok (.if_icmp .eq 9, 3) := by decide +kernel
theorem d_MO_partOf_63 : decode b_MO_partOf 63 = .ok (.iinc 5 1, 3) := by decide +kernel
theorem d_MO_partOf_66 : decode b_MO_partOf 66 = .ok (.goto (-48), 3) := by decide +kernel
theorem d_MO_partOf_69 : decode b_MO_partOf 69 = .ok (.iload 4, 2) := by decide +kernel
theorem d_MO_partOf_71 : decode b_MO_partOf 71 = .ok (.iload 5, 2) := by decide +kernel
theorem d_MO_partOf_73 : decode b_MO_partOf 73 = .ok (.isub, 1) := by decide +kernel
theorem d_MO_partOf_74 : decode b_MO_partOf 74 = .ok (.istore 4, 2) := by decide +kernel
theorem d_MO_partOf_76 : decode b_MO_partOf 76 = .ok (.iinc 6 1, 3) := by decide +kernel
theorem d_MO_partOf_79 : decode b_MO_partOf 79 = .ok (.goto (-70), 3) := by decide +kernel
theorem d_MO_partOf_82 : decode b_MO_partOf 82 = .ok (.iload 5, 2) := by decide +kernel
theorem d_MO_partOf_84 : decode b_MO_partOf 84 = .ok (.ireturn, 1) := by decide +kernel
theorem d_MO_least_0 : decode b_MO_least 0 = .ok (.aload_n 0, 1) := by decide +kernel
theorem d_MO_least_1 : decode b_MO_least 1 = .ok (.iload_n 1, 1) := by decide +kernel
theorem d_MO_least_2 : decode b_MO_least 2 = .ok (.invokevirtual 116, 3) := by decide +kernel
theorem d_MO_least_5 : decode b_MO_least 5 = .ok (.ifCond .ne 5, 3) := by decide +kernel
theorem d_MO_least_8 : decode b_MO_least 8 = .ok (.iconst (-1), 1) := by decide +kernel
theorem d_MO_least_9 : decode b_MO_least 9 = .ok (.ireturn, 1) := by decide +kernel
theorem d_MO_least_10 : decode b_MO_least 10 = .ok (.iload_n 2, 1) := by decide +kernel
theorem d_MO_least_11 : decode b_MO_least 11 = .ok (.invokestatic 123, 3) := by decide +kernel
theorem d_MO_least_14 : decode b_MO_least 14 = .ok (.ifCond .eq 12, 3) := by decide +kernel
theorem d_MO_least_17 : decode b_MO_least 17 = .ok (.iload_n 3, 1) := by decide +kernel
theorem d_MO_least_18 : decode b_MO_least 18 = .ok (.iconst 0, 1) := by decide +kernel
theorem d_MO_least_19 : decode b_MO_least 19 = .ok (.iconst 1, 1) := by decide +kernel
theorem d_MO_least_20 : decode b_MO_least 20 = .ok (.invokestatic 76, 3) := by decide +kernel
theorem d_MO_least_23 : decode b_MO_least 23 = .ok (.ifCond .ne 6, 3) := by decide +kernel
theorem d_MO_least_26 : decode b_MO_least 26 = .ok (.bipush (-2), 2) := by decide +kernel
theorem d_MO_least_28 : decode b_MO_least 28 = .ok (.ireturn, 1) := by decide +kernel
theorem d_MO_least_29 : decode b_MO_least 29 = .ok (.aload_n 0, 1) := by decide +kernel
theorem d_MO_least_30 : decode b_MO_least 30 = .ok (.getfield 107, 3) := by decide +kernel
theorem d_MO_least_33 : decode b_MO_least 33 = .ok (.istore 4, 2) := by decide +kernel
theorem d_MO_least_35 : decode b_MO_least 35 = .ok (.bipush (-9), 2) := by decide +kernel
theorem d_MO_least_37 : decode b_MO_least 37 = .ok (.istore 5, 2) := by decide +kernel
theorem d_MO_least_39 : decode b_MO_least 39 = .ok (.iconst 0, 1) := by decide +kernel
theorem d_MO_least_40 : decode b_MO_least 40 = .ok (.istore 6, 2) := by decide +kernel
theorem d_MO_least_42 : decode b_MO_least 42 = .ok (.aload_n 0, 1) := by decide +kernel
theorem d_MO_least_43 : decode b_MO_least 43 = .ok (.iconst 0, 1) := by decide +kernel
theorem d_MO_least_44 : decode b_MO_least 44 = .ok (.putfield 107, 3) := by decide +kernel
theorem d_MO_least_47 : decode b_MO_least 47 = .ok (.aload_n 0, 1) := by decide +kernel
theorem d_MO_least_48 : decode b_MO_least 48 = .ok (.getfield 107, 3) := by decide +kernel
theorem d_MO_least_51 : decode b_MO_least 51 = .ok (.iconst 3, 1) := by decide +kernel
theorem d_MO_least_52 : decode b_MO_least 52 = .ok (.if_icmp .ge 48, 3) := by decide +kernel
theorem d_MO_least_55 : decode b_MO_least 55 = .ok (.aload_n 0, 1) := by decide +kernel
theorem d_MO_least_56 : decode b_MO_least 56 = .ok (.iload_n 1, 1) := by decide +kernel
theorem d_MO_least_57 : decode b_MO_least 57 = .ok (.iload_n 2, 1) := by decide +kernel
theorem d_MO_least_58 : decode b_MO_least 58 = .ok (.invokevirtual 139, 3) := by decide +kernel
theorem d_MO_least_61 : decode b_MO_least 61 = .ok (.istore 7, 2) := by decide +kernel
theorem d_MO_least_63 : decode b_MO_least 63 = .ok (.iload 5, 2) := by decide +kernel
theorem d_MO_least_65 : decode b_MO_least 65 = .ok (.bipush (-9), 2) := by decide +kernel
theorem d_MO_least_67 : decode b_MO_least 67 = .ok (.if_icmp .eq 10, 3) := by decide +kernel
theorem d_MO_least_70 : decode b_MO_least 70 = .ok (.iload 7, 2) := by decide +kernel
theorem d_MO_least_72 : decode b_MO_least 72 = .ok (.iload 6, 2) := by decide +kernel
theorem d_MO_least_74 : decode b_MO_least 74 = .ok (.if_icmp .ge 13, 3) := by decide +kernel
theorem d_MO_least_77 : decode b_MO_least 77 = .ok (.aload_n 0, 1) := by decide +kernel
theorem d_MO_least_78 : decode b_MO_least 78 = .ok (.getfield 107, 3) := by decide +kernel
theorem d_MO_least_81 : decode b_MO_least 81 = .ok (.istore 5, 2) := by decide +kernel
theorem d_MO_least_83 : decode b_MO_least 83 = .ok (.iload 7, 2) := by decide +kernel
theorem d_MO_least_85 : decode b_MO_least 85 = .ok (.istore 6, 2) := by decide +kernel
theorem d_MO_least_87 : decode b_MO_least 87 = .ok (.aload_n 0, 1) := by decide +kernel
theorem d_MO_least_88 : decode b_MO_least 88 = .ok (.dup, 1) := by decide +kernel
theorem d_MO_least_89 : decode b_MO_least 89 = .ok (.getfield 107, 3) := by decide +kernel
theorem d_MO_least_92 : decode b_MO_least 92 = .ok (.iconst 1, 1) := by decide +kernel
theorem d_MO_least_93 : decode b_MO_least 93 = .ok (.iadd, 1) := by decide +kernel
theorem d_MO_least_94 : decode b_MO_least 94 = .ok (.putfield 107, 3) := by decide +kernel
theorem d_MO_least_97 : decode b_MO_least 97 = .ok (.goto (-50), 3) := by decide +kernel
theorem d_MO_least_100 : decode b_MO_least 100 = .ok (.aload_n 0, 1) := by decide +kernel
theorem d_MO_least_101 : decode b_MO_least 101 = .ok (.iload 4, 2) := by decide +kernel
theorem d_MO_least_103 : decode b_MO_least 103 = .ok (.putfield 107, 3) := by decide +kernel
theorem d_MO_least_106 : decode b_MO_least 106 = .ok (.iload_n 3, 1) := by decide +kernel
theorem d_MO_least_107 : decode b_MO_least 107 = .ok (.ifCond .ne 8, 3) := by decide +kernel
theorem d_MO_least_110 : decode b_MO_least 110 = .ok (.iload 5, 2) := by decide +kernel
theorem d_MO_least_112 : decode b_MO_least 112 = .ok (.goto 5, 3) := by decide +kernel
theorem d_MO_least_115 : decode b_MO_least 115 = .ok (.iload 6, 2) := by decide +kernel
theorem d_MO_least_117 : decode b_MO_least 117 = .ok (.ireturn, 1) := by decide +kernel
theorem d_MO_weights_0 : decode b_MO_weights 0 = .ok (.aload_n 0, 1) := by decide +kernel
theorem d_MO_weights_1 : decode b_MO_weights 1 = .ok (.iload_n 1, 1) := by decide +kernel
theorem d_MO_weights_2 : decode b_MO_weights 2 = .ok (.invokevirtual 130, 3) := by decide +kernel
theorem d_MO_weights_5 : decode b_MO_weights 5 = .ok (.ifCond .eq 17, 3) := by decide +kernel
theorem d_MO_weights_8 : decode b_MO_weights 8 = .ok (.aload_n 0, 1) := by decide +kernel
theorem d_MO_weights_9 : decode b_MO_weights 9 = .ok (.iload_n 2, 1) := by decide +kernel
theorem d_MO_weights_10 : decode b_MO_weights 10 = .ok (.invokevirtual 116, 3) := by decide +kernel
theorem d_MO_weights_13 : decode b_MO_weights 13 = .ok (.ifCond .eq 9, 3) := by decide +kernel
theorem d_MO_weights_16 : decode b_MO_weights 16 = .ok (.iload 5, 2) := by decide +kernel
theorem d_MO_weights_18 : decode b_MO_weights 18 = .ok (.iconst (-1), 1) := by decide +kernel
theorem d_MO_weights_19 : decode b_MO_weights 19 = .ok (.if_icmp .ge 5, 3) := by decide +kernel
theorem d_MO_weights_22 : decode b_MO_weights 22 = .ok (.iconst (-1), 1) := by decide +kernel
theorem d_MO_weights_23 : decode b_MO_weights 23 = .ok (.ireturn, 1) := by decide +kernel
theorem d_MO_weights_24 : decode b_MO_weights 24 = .ok (.iload_n 3, 1) := by decide +kernel
theorem d_MO_weights_25 : decode b_MO_weights 25 = .ok (.invokestatic 123, 3) := by decide +kernel
theorem d_MO_weights_28 : decode b_MO_weights 28 = .ok (.ifCond .ne 6, 3) := by decide +kernel
theorem d_MO_weights_31 : decode b_MO_weights 31 = .ok (.bipush (-2), 2) := by decide +kernel
theorem d_MO_weights_33 : decode b_MO_weights 33 = .ok (.ireturn, 1) := by decide +kernel
theorem d_MO_weights_34 : decode b_MO_weights 34 = .ok (.aload_n 0, 1) := by decide +kernel
theorem d_MO_weights_35 : decode b_MO_weights 35 = .ok (.getfield 43, 3) := by decide +kernel
theorem d_MO_weights_38 : decode b_MO_weights 38 = .ok (.iload_n 1, 1) := by decide +kernel
theorem d_MO_weights_39 : decode b_MO_weights 39 = .ok (.iaload, 1) := by decide +kernel
theorem d_MO_weights_40 : decode b_MO_weights 40 = .ok (.bipush (-9), 2) := by decide +kernel
theorem d_MO_weights_42 : decode b_MO_weights 42 = .ok (.if_icmp .ne 6, 3) := by decide +kernel
theorem d_MO_weights_45 : decode b_MO_weights 45 = .ok (.bipush (-3), 2) := by decide +kernel
theorem d_MO_weights_47 : decode b_MO_weights 47 = .ok (.ireturn, 1) := by decide +kernel
theorem d_MO_weights_48 : decode b_MO_weights 48 = .ok (.aload_n 0, 1) := by decide +kernel
theorem d_MO_weights_49 : decode b_MO_weights 49 = .ok (.getfield 37, 3) := by decide +kernel
theorem d_MO_weights_52 : decode b_MO_weights 52 = .ok (.iload_n 1, 1) := by decide +kernel
theorem d_MO_weights_53 : decode b_MO_weights 53 = .ok (.iaload, 1) := by decide +kernel
theorem d_MO_weights_54 : decode b_MO_weights 54 = .ok (.istore 6, 2) := by decide +kernel
theorem d_MO_weights_56 : decode b_MO_weights 56 = .ok (.iconst 0, 1) := by decide +kernel
theorem d_MO_weights_57 : decode b_MO_weights 57 = .ok (.istore 7, 2) := by decide +kernel
theorem d_MO_weights_59 : decode b_MO_weights 59 = .ok (.bipush (-9), 2) := by decide +kernel
theorem d_MO_weights_61 : decode b_MO_weights 61 = .ok (.istore 8, 2) := by decide +kernel
theorem d_MO_weights_63 : decode b_MO_weights 63 = .ok (.iconst 1, 1) := by decide +kernel
theorem d_MO_weights_64 : decode b_MO_weights 64 = .ok (.istore 9, 2) := by decide +kernel
theorem d_MO_weights_66 : decode b_MO_weights 66 = .ok (.iload 9, 2) := by decide +kernel
theorem d_MO_weights_68 : decode b_MO_weights 68 = .ok (.bipush 99, 2) := by decide +kernel
theorem d_MO_weights_70 : decode b_MO_weights 70 = .ok (.if_icmp .gt 71, 3) := by decide +kernel
theorem d_MO_weights_73 : decode b_MO_weights 73 = .ok (.aload_n 0, 1) := by decide +kernel
theorem d_MO_weights_74 : decode b_MO_weights 74 = .ok (.getfield 37, 3) := by decide +kernel
theorem d_MO_weights_77 : decode b_MO_weights 77 = .ok (.iload_n 1, 1) := by decide +kernel
theorem d_MO_weights_78 : decode b_MO_weights 78 = .ok (.iload 9, 2) := by decide +kernel
theorem d_MO_weights_80 : decode b_MO_weights 80 = .ok (.iastore, 1) := by decide +kernel
theorem d_MO_weights_81 : decode b_MO_weights 81 = .ok (.aload_n 0, 1) := by decide +kernel
theorem d_MO_weights_82 : decode b_MO_weights 82 = .ok (.iload_n 2, 1) := by decide +kernel
theorem d_MO_weights_83 : decode b_MO_weights 83 = .ok (.iload_n 3, 1) := by decide +kernel
theorem d_MO_weights_84 : decode b_MO_weights 84 = .ok (.invokevirtual 139, 3) := by decide +kernel
theorem d_MO_weights_87 : decode b_MO_weights 87 = .ok (.iload 4, 2) := by decide +kernel
theorem d_MO_weights_89 : decode b_MO_weights 89 = .ok (.if_icmp .ne 7, 3) := by decide +kernel
theorem d_MO_weights_92 : decode b_MO_weights 92 = .ok (.iconst 1, 1) := by decide +kernel
theorem d_MO_weights_93 : decode b_MO_weights 93 = .ok (.goto 4, 3) := by decide +kernel
theorem d_MO_weights_96 : decode b_MO_weights 96 = .ok (.iconst 0, 1) := by decide +kernel
theorem d_MO_weights_97 : decode b_MO_weights 97 = .ok (.istore 10, 2) := by decide +kernel
theorem d_MO_weights_99 : decode b_MO_weights 99 = .ok (.iload 10, 2) := by decide +kernel
theorem d_MO_weights_101 : decode b_MO_weights 101 = .ok (.ifCond .eq 15, 3) := by decide +kernel
theorem d_MO_weights_104 : decode b_MO_weights 104 = .ok (.iload 7, 2) := by decide +kernel
theorem d_MO_weights_106 : decode b_MO_weights 106 = .ok (.iload 5, 2) := by decide +kernel
theorem d_MO_weights_108 : decode b_MO_weights 108 = .ok (.if_icmp .ne 8, 3) := by decide +kernel
theorem d_MO_weights_111 : decode b_MO_weights 111 = .ok (.iload 9, 2) := by decide +kernel
theorem d_MO_weights_113 : decode b_MO_weights 113 = .ok (.goto 5, 3) := by decide +kernel
theorem d_MO_weights_116 : decode b_MO_weights 116 = .ok (.iload 8, 2) := by decide +kernel
theorem d_MO_weights_118 : decode b_MO_weights 118 = .ok (.istore 8, 2) := by decide +kernel
theorem d_MO_weights_120 : decode b_MO_weights 120 = .ok (.iload 7, 2) := by decide +kernel
theorem d_MO_weights_122 : decode b_MO_weights 122 = .ok (.iload 10, 2) := by decide +kernel
theorem d_MO_weights_124 : decode b_MO_weights 124 = .ok (.ifCond .eq 7, 3) := by decide +kernel
theorem d_MO_weights_127 : decode b_MO_weights 127 = .ok (.iconst 1, 1) := by decide +kernel
theorem d_MO_weights_128 : decode b_MO_weights 128 = .ok (.goto 4, 3) := by decide +kernel
theorem d_MO_weights_131 : decode b_MO_weights 131 = .ok (.iconst 0, 1) := by decide +kernel
theorem d_MO_weights_132 : decode b_MO_weights 132 = .ok (.iadd, 1) := by decide +kernel
theorem d_MO_weights_133 : decode b_MO_weights 133 = .ok (.istore 7, 2) := by decide +kernel
theorem d_MO_weights_135 : decode b_MO_weights 135 = .ok (.iinc 9 1, 3) := by decide +kernel
theorem d_MO_weights_138 : decode b_MO_weights 138 = .ok (.goto (-72), 3) := by decide +kernel
theorem d_MO_weights_141 : decode b_MO_weights 141 = .ok (.aload_n 0, 1) := by decide +kernel
theorem d_MO_weights_142 : decode b_MO_weights 142 = .ok (.getfield 37, 3) := by decide +kernel
theorem d_MO_weights_145 : decode b_MO_weights 145 = .ok (.iload_n 1, 1) := by decide +kernel
theorem d_MO_weights_146 : decode b_MO_weights 146 = .ok (.iload 6, 2) := by decide +kernel
theorem d_MO_weights_148 : decode b_MO_weights 148 = .ok (.iastore, 1) := by decide +kernel
theorem d_MO_weights_149 : decode b_MO_weights 149 = .ok (.iload 5, 2) := by decide +kernel
theorem d_MO_weights_151 : decode b_MO_weights 151 = .ok (.iconst (-1), 1) := by decide +kernel
theorem d_MO_weights_152 : decode b_MO_weights 152 = .ok (.if_icmp .ne 8, 3) := by decide +kernel
theorem d_MO_weights_155 : decode b_MO_weights 155 = .ok (.iload 7, 2) := by decide +kernel
theorem d_MO_weights_157 : decode b_MO_weights 157 = .ok (.goto 5, 3) := by decide +kernel
theorem d_MO_weights_160 : decode b_MO_weights 160 = .ok (.iload 8, 2) := by decide +kernel
theorem d_MO_weights_162 : decode b_MO_weights 162 = .ok (.ireturn, 1) := by decide +kernel
theorem d_MO_sheet_0 : decode b_MO_sheet 0 = .ok (.aload_n 0, 1) := by decide +kernel
theorem d_MO_sheet_1 : decode b_MO_sheet 1 = .ok (.iconst 0, 1) := by decide +kernel
theorem d_MO_sheet_2 : decode b_MO_sheet 2 = .ok (.putfield 70, 3) := by decide +kernel
theorem d_MO_sheet_5 : decode b_MO_sheet 5 = .ok (.iload_n 1, 1) := by decide +kernel
theorem d_MO_sheet_6 : decode b_MO_sheet 6 = .ok (.invokestatic 83, 3) := by decide +kernel
theorem d_MO_sheet_9 : decode b_MO_sheet 9 = .ok (.ifCond .ne 5, 3) := by decide +kernel
theorem d_MO_sheet_12 : decode b_MO_sheet 12 = .ok (.iconst (-1), 1) := by decide +kernel
theorem d_MO_sheet_13 : decode b_MO_sheet 13 = .ok (.ireturn, 1) := by decide +kernel
theorem d_MO_sheet_14 : decode b_MO_sheet 14 = .ok (.iload_n 2, 1) := by decide +kernel
theorem d_MO_sheet_15 : decode b_MO_sheet 15 = .ok (.invokestatic 87, 3) := by decide +kernel
theorem d_MO_sheet_18 : decode b_MO_sheet 18 = .ok (.ifCond .eq 9, 3) := by decide +kernel
theorem d_MO_sheet_21 : decode b_MO_sheet 21 = .ok (.iload_n 3, 1) := by decide +kernel
theorem d_MO_sheet_22 : decode b_MO_sheet 22 = .ok (.bipush 40, 2) := by decide +kernel
theorem d_MO_sheet_24 : decode b_MO_sheet 24 = .ok (.if_icmp .le 6, 3) := by decide +kernel
theorem d_MO_sheet_27 : decode b_MO_sheet 27 = .ok (.bipush (-2), 2) := by decide +kernel
theorem d_MO_sheet_29 : decode b_MO_sheet 29 = .ok (.ireturn, 1) := by decide +kernel
theorem d_MO_sheet_30 : decode b_MO_sheet 30 = .ok (.iload_n 3, 1) := by decide +kernel
theorem d_MO_sheet_31 : decode b_MO_sheet 31 = .ok (.ifCond .ge 9, 3) := by decide +kernel
theorem d_MO_sheet_34 : decode b_MO_sheet 34 = .ok (.aload_n 0, 1) := by decide +kernel
theorem d_MO_sheet_35 : decode b_MO_sheet 35 = .ok (.iconst 4, 1) := by decide +kernel
theorem d_MO_sheet_36 : decode b_MO_sheet 36 = .ok (.invokevirtual 94, 3) := by decide +kernel
theorem d_MO_sheet_39 : decode b_MO_sheet 39 = .ok (.ireturn, 1) := by decide +kernel
theorem d_MO_sheet_40 : decode b_MO_sheet 40 = .ok (.aload_n 0, 1) := by decide +kernel
theorem d_MO_sheet_41 : decode b_MO_sheet 41 = .ok (.getfield 9, 3) := by decide +kernel
theorem d_MO_sheet_44 : decode b_MO_sheet 44 = .ok (.iload_n 1, 1) := by decide +kernel
theorem d_MO_sheet_45 : decode b_MO_sheet 45 = .ok (.iload_n 2, 1) := by decide +kernel
theorem d_MO_sheet_46 : decode b_MO_sheet 46 = .ok (.iastore, 1) := by decide +kernel
theorem d_MO_sheet_47 : decode b_MO_sheet 47 = .ok (.aload_n 0, 1) := by decide +kernel
theorem d_MO_sheet_48 : decode b_MO_sheet 48 = .ok (.getfield 13, 3) := by decide +kernel
theorem d_MO_sheet_51 : decode b_MO_sheet 51 = .ok (.iload_n 1, 1) := by decide +kernel
theorem d_MO_sheet_52 : decode b_MO_sheet 52 = .ok (.iload_n 3, 1) := by decide +kernel
theorem d_MO_sheet_53 : decode b_MO_sheet 53 = .ok (.iastore, 1) := by decide +kernel
theorem d_MO_sheet_54 : decode b_MO_sheet 54 = .ok (.iconst 0, 1) := by decide +kernel
theorem d_MO_sheet_55 : decode b_MO_sheet 55 = .ok (.istore 4, 2) := by decide +kernel
theorem d_MO_sheet_57 : decode b_MO_sheet 57 = .ok (.iload 4, 2) := by decide +kernel
theorem d_MO_sheet_59 : decode b_MO_sheet 59 = .ok (.bipush 40, 2) := by decide +kernel
theorem d_MO_sheet_61 : decode b_MO_sheet 61 = .ok (.if_icmp .ge 22, 3) := by decide +kernel
theorem d_MO_sheet_64 : decode b_MO_sheet 64 = .ok (.aload_n 0, 1) := by decide +kernel
theorem d_MO_sheet_65 : decode b_MO_sheet 65 = .ok (.getfield 16, 3) := by decide +kernel
theorem d_MO_sheet_68 : decode b_MO_sheet 68 = .ok (.bipush 40, 2) := by decide +kernel
theorem d_MO_sheet_70 : decode b_MO_sheet 70 = .ok (.iload_n 1, 1) := by decide +kernel
theorem d_MO_sheet_71 : decode b_MO_sheet 71 = .ok (.imul, 1) := by decide +kernel
theorem d_MO_sheet_72 : decode b_MO_sheet 72 = .ok (.iload 4, 2) := by decide +kernel
theorem d_MO_sheet_74 : decode b_MO_sheet 74 = .ok (.iadd, 1) := by decide +kernel
theorem d_MO_sheet_75 : decode b_MO_sheet 75 = .ok (.iconst 0, 1) := by decide +kernel
theorem d_MO_sheet_76 : decode b_MO_sheet 76 = .ok (.iastore, 1) := by decide +kernel
theorem d_MO_sheet_77 : decode b_MO_sheet 77 = .ok (.iinc 4 1, 3) := by decide +kernel
theorem d_MO_sheet_80 : decode b_MO_sheet 80 = .ok (.goto (-23), 3) := by decide +kernel
theorem d_MO_sheet_83 : decode b_MO_sheet 83 = .ok (.iconst 1, 1) := by decide +kernel
theorem d_MO_sheet_84 : decode b_MO_sheet 84 = .ok (.ireturn, 1) := by decide +kernel
theorem d_MO_lose_0 : decode b_MO_lose 0 = .ok (.iload_n 1, 1) := by decide +kernel
theorem d_MO_lose_1 : decode b_MO_lose 1 = .ok (.invokestatic 83, 3) := by decide +kernel
theorem d_MO_lose_4 : decode b_MO_lose 4 = .ok (.ifCond .ne 5, 3) := by decide +kernel
theorem d_MO_lose_7 : decode b_MO_lose 7 = .ok (.iconst (-1), 1) := by decide +kernel
theorem d_MO_lose_8 : decode b_MO_lose 8 = .ok (.ireturn, 1) := by decide +kernel
theorem d_MO_lose_9 : decode b_MO_lose 9 = .ok (.aload_n 0, 1) := by decide +kernel
theorem d_MO_lose_10 : decode b_MO_lose 10 = .ok (.getfield 9, 3) := by decide +kernel
theorem d_MO_lose_13 : decode b_MO_lose 13 = .ok (.iload_n 1, 1) := by decide +kernel
theorem d_MO_lose_14 : decode b_MO_lose 14 = .ok (.iaload, 1) := by decide +kernel
theorem d_MO_lose_15 : decode b_MO_lose 15 = .ok (.bipush (-9), 2) := by decide +kernel
theorem d_MO_lose_17 : decode b_MO_lose 17 = .ok (.if_icmp .ne 7, 3) := by decide +kernel
theorem d_MO_lose_20 : decode b_MO_lose 20 = .ok (.iconst 0, 1) := by decide +kernel
theorem d_MO_lose_21 : decode b_MO_lose 21 = .ok (.goto 4, 3) := by decide +kernel
theorem d_MO_lose_24 : decode b_MO_lose 24 = .ok (.iconst 1, 1) := by decide +kernel
theorem d_MO_lose_25 : decode b_MO_lose 25 = .ok (.istore_n 2, 1) := by decide +kernel
theorem d_MO_lose_26 : decode b_MO_lose 26 = .ok (.aload_n 0, 1) := by decide +kernel
theorem d_MO_lose_27 : decode b_MO_lose 27 = .ok (.getfield 9, 3) := by decide +kernel
theorem d_MO_lose_30 : decode b_MO_lose 30 = .ok (.iload_n 1, 1) := by decide +kernel
theorem d_MO_lose_31 : decode b_MO_lose 31 = .ok (.bipush (-9), 2) := by decide +kernel
theorem d_MO_lose_33 : decode b_MO_lose 33 = .ok (.iastore, 1) := by decide +kernel
theorem d_MO_lose_34 : decode b_MO_lose 34 = .ok (.iload_n 2, 1) := by decide +kernel
theorem d_MO_lose_35 : decode b_MO_lose 35 = .ok (.ireturn, 1) := by decide +kernel
theorem d_MO_put_0 : decode b_MO_put 0 = .ok (.aload_n 0, 1) := by decide +kernel
theorem d_MO_put_1 : decode b_MO_put 1 = .ok (.iconst 0, 1) := by decide +kernel
theorem d_MO_put_2 : decode b_MO_put 2 = .ok (.putfield 70, 3) := by decide +kernel
theorem d_MO_put_5 : decode b_MO_put 5 = .ok (.iload_n 1, 1) := by decide +kernel
theorem d_MO_put_6 : decode b_MO_put 6 = .ok (.invokestatic 83, 3) := by decide +kernel
theorem d_MO_put_9 : decode b_MO_put 9 = .ok (.ifCond .ne 5, 3) := by decide +kernel
theorem d_MO_put_12 : decode b_MO_put 12 = .ok (.iconst (-1), 1) := by decide +kernel
theorem d_MO_put_13 : decode b_MO_put 13 = .ok (.ireturn, 1) := by decide +kernel
theorem d_MO_put_14 : decode b_MO_put 14 = .ok (.aload_n 0, 1) := by decide +kernel
theorem d_MO_put_15 : decode b_MO_put 15 = .ok (.getfield 9, 3) := by decide +kernel
theorem d_MO_put_18 : decode b_MO_put 18 = .ok (.iload_n 1, 1) := by decide +kernel
theorem d_MO_put_19 : decode b_MO_put 19 = .ok (.iaload, 1) := by decide +kernel
theorem d_MO_put_20 : decode b_MO_put 20 = .ok (.bipush (-9), 2) := by decide +kernel
theorem d_MO_put_22 : decode b_MO_put 22 = .ok (.if_icmp .ne 9, 3) := by decide +kernel
theorem d_MO_put_25 : decode b_MO_put 25 = .ok (.aload_n 0, 1) := by decide +kernel
theorem d_MO_put_26 : decode b_MO_put 26 = .ok (.iconst 1, 1) := by decide +kernel
theorem d_MO_put_27 : decode b_MO_put 27 = .ok (.invokevirtual 94, 3) := by decide +kernel
theorem d_MO_put_30 : decode b_MO_put 30 = .ok (.ireturn, 1) := by decide +kernel
theorem d_MO_put_31 : decode b_MO_put 31 = .ok (.iload_n 2, 1) := by decide +kernel
theorem d_MO_put_32 : decode b_MO_put 32 = .ok (.iconst 0, 1) := by decide +kernel
theorem d_MO_put_33 : decode b_MO_put 33 = .ok (.aload_n 0, 1) := by decide +kernel
theorem d_MO_put_34 : decode b_MO_put 34 = .ok (.getfield 13, 3) := by decide +kernel
theorem d_MO_put_37 : decode b_MO_put 37 = .ok (.iload_n 1, 1) := by decide +kernel
theorem d_MO_put_38 : decode b_MO_put 38 = .ok (.iaload, 1) := by decide +kernel
theorem d_MO_put_39 : decode b_MO_put 39 = .ok (.iconst 1, 1) := by decide +kernel
theorem d_MO_put_40 : decode b_MO_put 40 = .ok (.isub, 1) := by decide +kernel
theorem d_MO_put_41 : decode b_MO_put 41 = .ok (.invokestatic 76, 3) := by decide +kernel
theorem d_MO_put_44 : decode b_MO_put 44 = .ok (.ifCond .ne 9, 3) := by decide +kernel
theorem d_MO_put_47 : decode b_MO_put 47 = .ok (.aload_n 0, 1) := by decide +kernel
theorem d_MO_put_48 : decode b_MO_put 48 = .ok (.iconst 3, 1) := by decide +kernel
theorem d_MO_put_49 : decode b_MO_put 49 = .ok (.invokevirtual 94, 3) := by decide +kernel
theorem d_MO_put_52 : decode b_MO_put 52 = .ok (.ireturn, 1) := by decide +kernel
theorem d_MO_put_53 : decode b_MO_put 53 = .ok (.aload_n 0, 1) := by decide +kernel
theorem d_MO_put_54 : decode b_MO_put 54 = .ok (.getfield 16, 3) := by decide +kernel
theorem d_MO_put_57 : decode b_MO_put 57 = .ok (.bipush 40, 2) := by decide +kernel
theorem d_MO_put_59 : decode b_MO_put 59 = .ok (.iload_n 1, 1) := by decide +kernel
theorem d_MO_put_60 : decode b_MO_put 60 = .ok (.imul, 1) := by decide +kernel
theorem d_MO_put_61 : decode b_MO_put 61 = .ok (.iload_n 2, 1) := by decide +kernel
theorem d_MO_put_62 : decode b_MO_put 62 = .ok (.iadd, 1) := by decide +kernel
theorem d_MO_put_63 : decode b_MO_put 63 = .ok (.aload_n 0, 1) := by decide +kernel
theorem d_MO_put_64 : decode b_MO_put 64 = .ok (.getfield 9, 3) := by decide +kernel
theorem d_MO_put_67 : decode b_MO_put 67 = .ok (.iload_n 1, 1) := by decide +kernel
theorem d_MO_put_68 : decode b_MO_put 68 = .ok (.iaload, 1) := by decide +kernel
theorem d_MO_put_69 : decode b_MO_put 69 = .ok (.ifCond .ne 8, 3) := by decide +kernel
theorem d_MO_put_72 : decode b_MO_put 72 = .ok (.iload_n 3, 1) := by decide +kernel
theorem d_MO_put_73 : decode b_MO_put 73 = .ok (.i2b, 1) := by decide +kernel
theorem d_MO_put_74 : decode b_MO_put 74 = .ok (.goto 19, 3) := by decide +kernel
theorem d_MO_put_77 : decode b_MO_put 77 = .ok (.aload_n 0, 1) := by decide +kernel
theorem d_MO_put_78 : decode b_MO_put 78 = .ok (.getfield 9, 3) := by decide +kernel
theorem d_MO_put_81 : decode b_MO_put 81 = .ok (.iload_n 1, 1) := by decide +kernel
theorem d_MO_put_82 : decode b_MO_put 82 = .ok (.iaload, 1) := by decide +kernel
theorem d_MO_put_83 : decode b_MO_put 83 = .ok (.iconst 1, 1) := by decide +kernel
theorem d_MO_put_84 : decode b_MO_put 84 = .ok (.if_icmp .ne 8, 3) := by decide +kernel
theorem d_MO_put_87 : decode b_MO_put 87 = .ok (.iload_n 3, 1) := by decide +kernel
theorem d_MO_put_88 : decode b_MO_put 88 = .ok (.i2s, 1) := by decide +kernel
theorem d_MO_put_89 : decode b_MO_put 89 = .ok (.goto 4, 3) := by decide +kernel
theorem d_MO_put_92 : decode b_MO_put 92 = .ok (.iload_n 3, 1) := by decide +kernel
theorem d_MO_put_93 : decode b_MO_put 93 = .ok (.iastore, 1) := by decide +kernel
theorem d_MO_put_94 : decode b_MO_put 94 = .ok (.iconst 1, 1) := by decide +kernel
theorem d_MO_put_95 : decode b_MO_put 95 = .ok (.ireturn, 1) := by decide +kernel
theorem d_MO_cell_0 : decode b_MO_cell 0 = .ok (.aload_n 0, 1) := by decide +kernel
theorem d_MO_cell_1 : decode b_MO_cell 1 = .ok (.iconst 0, 1) := by decide +kernel
theorem d_MO_cell_2 : decode b_MO_cell 2 = .ok (.putfield 70, 3) := by decide +kernel
theorem d_MO_cell_5 : decode b_MO_cell 5 = .ok (.iload_n 1, 1) := by decide +kernel
theorem d_MO_cell_6 : decode b_MO_cell 6 = .ok (.invokestatic 83, 3) := by decide +kernel
theorem d_MO_cell_9 : decode b_MO_cell 9 = .ok (.ifCond .eq 10, 3) := by decide +kernel
theorem d_MO_cell_12 : decode b_MO_cell 12 = .ok (.iload_n 3, 1) := by decide +kernel
theorem d_MO_cell_13 : decode b_MO_cell 13 = .ok (.invokestatic 87, 3) := by decide +kernel
theorem d_MO_cell_16 : decode b_MO_cell 16 = .ok (.ifCond .ne 7, 3) := by decide +kernel
theorem d_MO_cell_19 : decode b_MO_cell 19 = .ok (.ldc2_w 74, 3) := by decide +kernel
theorem d_MO_cell_22 : decode b_MO_cell 22 = .ok (.lreturn, 1) := by decide +kernel
theorem d_MO_cell_23 : decode b_MO_cell 23 = .ok (.aload_n 0, 1) := by decide +kernel
theorem d_MO_cell_24 : decode b_MO_cell 24 = .ok (.getfield 9, 3) := by decide +kernel
theorem d_MO_cell_27 : decode b_MO_cell 27 = .ok (.iload_n 1, 1) := by decide +kernel
theorem d_MO_cell_28 : decode b_MO_cell 28 = .ok (.iaload, 1) := by decide +kernel
theorem d_MO_cell_29 : decode b_MO_cell 29 = .ok (.bipush (-9), 2) := by decide +kernel
theorem d_MO_cell_31 : decode b_MO_cell 31 = .ok (.if_icmp .eq 19, 3) := by decide +kernel
theorem d_MO_cell_34 : decode b_MO_cell 34 = .ok (.aload_n 0, 1) := by decide +kernel
theorem d_MO_cell_35 : decode b_MO_cell 35 = .ok (.getfield 9, 3) := by decide +kernel
theorem d_MO_cell_38 : decode b_MO_cell 38 = .ok (.iload_n 1, 1) := by decide +kernel
theorem d_MO_cell_39 : decode b_MO_cell 39 = .ok (.iaload, 1) := by decide +kernel
theorem d_MO_cell_40 : decode b_MO_cell 40 = .ok (.iload_n 3, 1) := by decide +kernel
theorem d_MO_cell_41 : decode b_MO_cell 41 = .ok (.if_icmp .eq 9, 3) := by decide +kernel
theorem d_MO_cell_44 : decode b_MO_cell 44 = .ok (.aload_n 0, 1) := by decide +kernel
theorem d_MO_cell_45 : decode b_MO_cell 45 = .ok (.iconst 2, 1) := by decide +kernel
theorem d_MO_cell_46 : decode b_MO_cell 46 = .ok (.invokevirtual 186, 3) := by decide +kernel
theorem d_MO_cell_49 : decode b_MO_cell 49 = .ok (.lreturn, 1) := by decide +kernel
theorem d_MO_cell_50 : decode b_MO_cell 50 = .ok (.aload_n 0, 1) := by decide +kernel
theorem d_MO_cell_51 : decode b_MO_cell 51 = .ok (.getfield 9, 3) := by decide +kernel
theorem d_MO_cell_54 : decode b_MO_cell 54 = .ok (.iload_n 1, 1) := by decide +kernel
theorem d_MO_cell_55 : decode b_MO_cell 55 = .ok (.iaload, 1) := by decide +kernel
theorem d_MO_cell_56 : decode b_MO_cell 56 = .ok (.bipush (-9), 2) := by decide +kernel
theorem d_MO_cell_58 : decode b_MO_cell 58 = .ok (.if_icmp .ne 9, 3) := by decide +kernel
theorem d_MO_cell_61 : decode b_MO_cell 61 = .ok (.aload_n 0, 1) := by decide +kernel
theorem d_MO_cell_62 : decode b_MO_cell 62 = .ok (.iconst 1, 1) := by decide +kernel
theorem d_MO_cell_63 : decode b_MO_cell 63 = .ok (.invokevirtual 186, 3) := by decide +kernel
theorem d_MO_cell_66 : decode b_MO_cell 66 = .ok (.lreturn, 1) := by decide +kernel
theorem d_MO_cell_67 : decode b_MO_cell 67 = .ok (.iload_n 2, 1) := by decide +kernel
theorem d_MO_cell_68 : decode b_MO_cell 68 = .ok (.iconst 0, 1) := by decide +kernel
theorem d_MO_cell_69 : decode b_MO_cell 69 = .ok (.aload_n 0, 1) := by decide +kernel
theorem d_MO_cell_70 : decode b_MO_cell 70 = .ok (.getfield 13, 3) := by decide +kernel
theorem d_MO_cell_73 : decode b_MO_cell 73 = .ok (.iload_n 1, 1) := by decide +kernel
theorem d_MO_cell_74 : decode b_MO_cell 74 = .ok (.iaload, 1) := by decide +kernel
theorem d_MO_cell_75 : decode b_MO_cell 75 = .ok (.iconst 1, 1) := by decide +kernel
theorem d_MO_cell_76 : decode b_MO_cell 76 = .ok (.isub, 1) := by decide +kernel
theorem d_MO_cell_77 : decode b_MO_cell 77 = .ok (.invokestatic 76, 3) := by decide +kernel
theorem d_MO_cell_80 : decode b_MO_cell 80 = .ok (.ifCond .ne 9, 3) := by decide +kernel
theorem d_MO_cell_83 : decode b_MO_cell 83 = .ok (.aload_n 0, 1) := by decide +kernel
theorem d_MO_cell_84 : decode b_MO_cell 84 = .ok (.iconst 3, 1) := by decide +kernel
theorem d_MO_cell_85 : decode b_MO_cell 85 = .ok (.invokevirtual 186, 3) := by decide +kernel
theorem d_MO_cell_88 : decode b_MO_cell 88 = .ok (.lreturn, 1) := by decide +kernel
theorem d_MO_cell_89 : decode b_MO_cell 89 = .ok (.aload_n 0, 1) := by decide +kernel
theorem d_MO_cell_90 : decode b_MO_cell 90 = .ok (.getfield 16, 3) := by decide +kernel
theorem d_MO_cell_93 : decode b_MO_cell 93 = .ok (.bipush 40, 2) := by decide +kernel
theorem d_MO_cell_95 : decode b_MO_cell 95 = .ok (.iload_n 1, 1) := by decide +kernel
theorem d_MO_cell_96 : decode b_MO_cell 96 = .ok (.imul, 1) := by decide +kernel
theorem d_MO_cell_97 : decode b_MO_cell 97 = .ok (.iload_n 2, 1) := by decide +kernel
theorem d_MO_cell_98 : decode b_MO_cell 98 = .ok (.iadd, 1) := by decide +kernel
theorem d_MO_cell_99 : decode b_MO_cell 99 = .ok (.iaload, 1) := by decide +kernel
theorem d_MO_cell_100 : decode b_MO_cell 100 = .ok (.i2l, 1) := by decide +kernel
theorem d_MO_cell_101 : decode b_MO_cell 101 = .ok (.lreturn, 1) := by decide +kernel
theorem d_MO_copy_0 : decode b_MO_copy 0 = .ok (.aload_n 0, 1) := by decide +kernel
theorem d_MO_copy_1 : decode b_MO_copy 1 = .ok (.iconst 0, 1) := by decide +kernel
theorem d_MO_copy_2 : decode b_MO_copy 2 = .ok (.putfield 70, 3) := by decide +kernel
theorem d_MO_copy_5 : decode b_MO_copy 5 = .ok (.iload_n 1, 1) := by decide +kernel
theorem d_MO_copy_6 : decode b_MO_copy 6 = .ok (.invokestatic 83, 3) := by decide +kernel
theorem d_MO_copy_9 : decode b_MO_copy 9 = .ok (.ifCond .eq 10, 3) := by decide +kernel
theorem d_MO_copy_12 : decode b_MO_copy 12 = .ok (.iload_n 3, 1) := by decide +kernel
theorem d_MO_copy_13 : decode b_MO_copy 13 = .ok (.invokestatic 83, 3) := by decide +kernel
theorem d_MO_copy_16 : decode b_MO_copy 16 = .ok (.ifCond .ne 5, 3) := by decide +kernel
theorem d_MO_copy_19 : decode b_MO_copy 19 = .ok (.iconst (-1), 1) := by decide +kernel
theorem d_MO_copy_20 : decode b_MO_copy 20 = .ok (.ireturn, 1) := by decide +kernel
theorem d_MO_copy_21 : decode b_MO_copy 21 = .ok (.aload_n 0, 1) := by decide +kernel
theorem d_MO_copy_22 : decode b_MO_copy 22 = .ok (.getfield 9, 3) := by decide +kernel
theorem d_MO_copy_25 : decode b_MO_copy 25 = .ok (.iload_n 1, 1) := by decide +kernel
theorem d_MO_copy_26 : decode b_MO_copy 26 = .ok (.iaload, 1) := by decide +kernel
theorem d_MO_copy_27 : decode b_MO_copy 27 = .ok (.bipush (-9), 2) := by decide +kernel
theorem d_MO_copy_29 : decode b_MO_copy 29 = .ok (.if_icmp .eq 14, 3) := by decide +kernel
theorem d_MO_copy_32 : decode b_MO_copy 32 = .ok (.aload_n 0, 1) := by decide +kernel
theorem d_MO_copy_33 : decode b_MO_copy 33 = .ok (.getfield 9, 3) := by decide +kernel
theorem d_MO_copy_36 : decode b_MO_copy 36 = .ok (.iload_n 3, 1) := by decide +kernel
theorem d_MO_copy_37 : decode b_MO_copy 37 = .ok (.iaload, 1) := by decide +kernel
theorem d_MO_copy_38 : decode b_MO_copy 38 = .ok (.bipush (-9), 2) := by decide +kernel
theorem d_MO_copy_40 : decode b_MO_copy 40 = .ok (.if_icmp .ne 9, 3) := by decide +kernel
theorem d_MO_copy_43 : decode b_MO_copy 43 = .ok (.aload_n 0, 1) := by decide +kernel
theorem d_MO_copy_44 : decode b_MO_copy 44 = .ok (.iconst 1, 1) := by decide +kernel
theorem d_MO_copy_45 : decode b_MO_copy 45 = .ok (.invokevirtual 94, 3) := by decide +kernel
theorem d_MO_copy_48 : decode b_MO_copy 48 = .ok (.ireturn, 1) := by decide +kernel
theorem d_MO_copy_49 : decode b_MO_copy 49 = .ok (.aload_n 0, 1) := by decide +kernel
theorem d_MO_copy_50 : decode b_MO_copy 50 = .ok (.getfield 9, 3) := by decide +kernel
theorem d_MO_copy_53 : decode b_MO_copy 53 = .ok (.iload_n 1, 1) := by decide +kernel
theorem d_MO_copy_54 : decode b_MO_copy 54 = .ok (.iaload, 1) := by decide +kernel
theorem d_MO_copy_55 : decode b_MO_copy 55 = .ok (.aload_n 0, 1) := by decide +kernel
theorem d_MO_copy_56 : decode b_MO_copy 56 = .ok (.getfield 9, 3) := by decide +kernel
theorem d_MO_copy_59 : decode b_MO_copy 59 = .ok (.iload_n 3, 1) := by decide +kernel
theorem d_MO_copy_60 : decode b_MO_copy 60 = .ok (.iaload, 1) := by decide +kernel
theorem d_MO_copy_61 : decode b_MO_copy 61 = .ok (.if_icmp .eq 9, 3) := by decide +kernel
theorem d_MO_copy_64 : decode b_MO_copy 64 = .ok (.aload_n 0, 1) := by decide +kernel
theorem d_MO_copy_65 : decode b_MO_copy 65 = .ok (.iconst 2, 1) := by decide +kernel
theorem d_MO_copy_66 : decode b_MO_copy 66 = .ok (.invokevirtual 94, 3) := by decide +kernel
theorem d_MO_copy_69 : decode b_MO_copy 69 = .ok (.ireturn, 1) := by decide +kernel
theorem d_MO_copy_70 : decode b_MO_copy 70 = .ok (.iload_n 2, 1) := by decide +kernel
theorem d_MO_copy_71 : decode b_MO_copy 71 = .ok (.ifCond .lt 38, 3) := by decide +kernel
theorem d_MO_copy_74 : decode b_MO_copy 74 = .ok (.iload 4, 2) := by decide +kernel
theorem d_MO_copy_76 : decode b_MO_copy 76 = .ok (.ifCond .lt 33, 3) := by decide +kernel
theorem d_MO_copy_79 : decode b_MO_copy 79 = .ok (.iload 5, 2) := by decide +kernel
theorem d_MO_copy_81 : decode b_MO_copy 81 = .ok (.ifCond .lt 28, 3) := by decide +kernel
theorem d_MO_copy_84 : decode b_MO_copy 84 = .ok (.iload_n 2, 1) := by decide +kernel
theorem d_MO_copy_85 : decode b_MO_copy 85 = .ok (.aload_n 0, 1) := by decide +kernel
theorem d_MO_copy_86 : decode b_MO_copy 86 = .ok (.getfield 13, 3) := by decide +kernel
theorem d_MO_copy_89 : decode b_MO_copy 89 = .ok (.iload_n 1, 1) := by decide +kernel
theorem d_MO_copy_90 : decode b_MO_copy 90 = .ok (.iaload, 1) := by decide +kernel
theorem d_MO_copy_91 : decode b_MO_copy 91 = .ok (.if_icmp .gt 18, 3) := by decide +kernel
theorem d_MO_copy_94 : decode b_MO_copy 94 = .ok (.iload 4, 2) := by decide +kernel
theorem d_MO_copy_96 : decode b_MO_copy 96 = .ok (.aload_n 0, 1) := by decide +kernel
theorem d_MO_copy_97 : decode b_MO_copy 97 = .ok (.getfield 13, 3) := by decide +kernel
theorem d_MO_copy_100 : decode b_MO_copy 100 = .ok (.iload_n 3, 1) := by decide +kernel
theorem d_MO_copy_101 : decode b_MO_copy 101 = .ok (.iaload, 1) := by decide +kernel
theorem d_MO_copy_102 : decode b_MO_copy 102 = .ok (.if_icmp .gt 7, 3) := by decide +kernel
theorem d_MO_copy_105 : decode b_MO_copy 105 = .ok (.iconst 1, 1) := by decide +kernel
theorem d_MO_copy_106 : decode b_MO_copy 106 = .ok (.goto 4, 3) := by decide +kernel
theorem d_MO_copy_109 : decode b_MO_copy 109 = .ok (.iconst 0, 1) := by decide +kernel
theorem d_MO_copy_110 : decode b_MO_copy 110 = .ok (.istore 6, 2) := by decide +kernel
theorem d_MO_copy_112 : decode b_MO_copy 112 = .ok (.iload 6, 2) := by decide +kernel
theorem d_MO_copy_114 : decode b_MO_copy 114 = .ok (.ifCond .eq 30, 3) := by decide +kernel
theorem d_MO_copy_117 : decode b_MO_copy 117 = .ok (.iload 5, 2) := by decide +kernel
theorem d_MO_copy_119 : decode b_MO_copy 119 = .ok (.aload_n 0, 1) := by decide +kernel
theorem d_MO_copy_120 : decode b_MO_copy 120 = .ok (.getfield 13, 3) := by decide +kernel
theorem d_MO_copy_123 : decode b_MO_copy 123 = .ok (.iload_n 1, 1) := by decide +kernel
theorem d_MO_copy_124 : decode b_MO_copy 124 = .ok (.iaload, 1) := by decide +kernel
theorem d_MO_copy_125 : decode b_MO_copy 125 = .ok (.iload_n 2, 1) := by decide +kernel
theorem d_MO_copy_126 : decode b_MO_copy 126 = .ok (.isub, 1) := by decide +kernel
theorem d_MO_copy_127 : decode b_MO_copy 127 = .ok (.if_icmp .gt 17, 3) := by decide +kernel
theorem d_MO_copy_130 : decode b_MO_copy 130 = .ok (.iload 5, 2) := by decide +kernel
theorem d_MO_copy_132 : decode b_MO_copy 132 = .ok (.aload_n 0, 1) := by decide +kernel
theorem d_MO_copy_133 : decode b_MO_copy 133 = .ok (.getfield 13, 3) := by decide +kernel
theorem d_MO_copy_136 : decode b_MO_copy 136 = .ok (.iload_n 3, 1) := by decide +kernel
theorem d_MO_copy_137 : decode b_MO_copy 137 = .ok (.iaload, 1) := by decide +kernel
theorem d_MO_copy_138 : decode b_MO_copy 138 = .ok (.iload 4, 2) := by decide +kernel
theorem d_MO_copy_140 : decode b_MO_copy 140 = .ok (.isub, 1) := by decide +kernel
theorem d_MO_copy_141 : decode b_MO_copy 141 = .ok (.if_icmp .le 9, 3) := by decide +kernel
theorem d_MO_copy_144 : decode b_MO_copy 144 = .ok (.aload_n 0, 1) := by decide +kernel
theorem d_MO_copy_145 : decode b_MO_copy 145 = .ok (.iconst 3, 1) := by decide +kernel
theorem d_MO_copy_146 : decode b_MO_copy 146 = .ok (.invokevirtual 94, 3) := by decide +kernel
theorem d_MO_copy_149 : decode b_MO_copy 149 = .ok (.ireturn, 1) := by decide +kernel
theorem d_MO_copy_150 : decode b_MO_copy 150 = .ok (.iload_n 2, 1) := by decide +kernel
theorem d_MO_copy_151 : decode b_MO_copy 151 = .ok (.iload 4, 2) := by decide +kernel
theorem d_MO_copy_153 : decode b_MO_copy 153 = .ok (.if_icmp .ge 7, 3) := by decide +kernel
theorem d_MO_copy_156 : decode b_MO_copy 156 = .ok (.iconst 1, 1) := by decide +kernel
theorem d_MO_copy_157 : decode b_MO_copy 157 = .ok (.goto 4, 3) := by decide +kernel
theorem d_MO_copy_160 : decode b_MO_copy 160 = .ok (.iconst 0, 1) := by decide +kernel
theorem d_MO_copy_161 : decode b_MO_copy 161 = .ok (.istore 7, 2) := by decide +kernel
theorem d_MO_copy_163 : decode b_MO_copy 163 = .ok (.iconst 0, 1) := by decide +kernel
theorem d_MO_copy_164 : decode b_MO_copy 164 = .ok (.istore 8, 2) := by decide +kernel
theorem d_MO_copy_166 : decode b_MO_copy 166 = .ok (.iload 8, 2) := by decide +kernel
theorem d_MO_copy_168 : decode b_MO_copy 168 = .ok (.iload 5, 2) := by decide +kernel
theorem d_MO_copy_170 : decode b_MO_copy 170 = .ok (.if_icmp .ge 57, 3) := by decide +kernel
theorem d_MO_copy_173 : decode b_MO_copy 173 = .ok (.iload 7, 2) := by decide +kernel
theorem d_MO_copy_175 : decode b_MO_copy 175 = .ok (.ifCond .eq 13, 3) := by decide +kernel
theorem d_MO_copy_178 : decode b_MO_copy 178 = .ok (.iload 5, 2) := by decide +kernel
theorem d_MO_copy_180 : decode b_MO_copy 180 = .ok (.iconst 1, 1) := by decide +kernel
theorem d_MO_copy_181 : decode b_MO_copy 181 = .ok (.isub, 1) := by decide +kernel
theorem d_MO_copy_182 : decode b_MO_copy 182 = .ok (.iload 8, 2) := by decide +kernel
theorem d_MO_copy_184 : decode b_MO_copy 184 = .ok (.isub, 1) := by decide +kernel
theorem d_MO_copy_185 : decode b_MO_copy 185 = .ok (.goto 5, 3) := by decide +kernel
theorem d_MO_copy_188 : decode b_MO_copy 188 = .ok (.iload 8, 2) := by decide +kernel
theorem d_MO_copy_190 : decode b_MO_copy 190 = .ok (.istore 9, 2) := by decide +kernel
theorem d_MO_copy_192 : decode b_MO_copy 192 = .ok (.aload_n 0, 1) := by decide +kernel
theorem d_MO_copy_193 : decode b_MO_copy 193 = .ok (.getfield 16, 3) := by decide +kernel
theorem d_MO_copy_196 : decode b_MO_copy 196 = .ok (.bipush 40, 2) := by decide +kernel
theorem d_MO_copy_198 : decode b_MO_copy 198 = .ok (.iload_n 3, 1) := by decide +kernel
theorem d_MO_copy_199 : decode b_MO_copy 199 = .ok (.imul, 1) := by decide +kernel
theorem d_MO_copy_200 : decode b_MO_copy 200 = .ok (.iload 4, 2) := by decide +kernel
theorem d_MO_copy_202 : decode b_MO_copy 202 = .ok (.iadd, 1) := by decide +kernel
theorem d_MO_copy_203 : decode b_MO_copy 203 = .ok (.iload 9, 2) := by decide +kernel
theorem d_MO_copy_205 : decode b_MO_copy 205 = .ok (.iadd, 1) := by decide +kernel
theorem d_MO_copy_206 : decode b_MO_copy 206 = .ok (.aload_n 0, 1) := by decide +kernel
theorem d_MO_copy_207 : decode b_MO_copy 207 = .ok (.getfield 16, 3) := by decide +kernel
theorem d_MO_copy_210 : decode b_MO_copy 210 = .ok (.bipush 40, 2) := by decide +kernel
theorem d_MO_copy_212 : decode b_MO_copy 212 = .ok (.iload_n 1, 1) := by decide +kernel
theorem d_MO_copy_213 : decode b_MO_copy 213 = .ok (.imul, 1) := by decide +kernel
theorem d_MO_copy_214 : decode b_MO_copy 214 = .ok (.iload_n 2, 1) := by decide +kernel
theorem d_MO_copy_215 : decode b_MO_copy 215 = .ok (.iadd, 1) := by decide +kernel
theorem d_MO_copy_216 : decode b_MO_copy 216 = .ok (.iload 9, 2) := by decide +kernel
theorem d_MO_copy_218 : decode b_MO_copy 218 = .ok (.iadd, 1) := by decide +kernel
theorem d_MO_copy_219 : decode b_MO_copy 219 = .ok (.iaload, 1) := by decide +kernel
theorem d_MO_copy_220 : decode b_MO_copy 220 = .ok (.iastore, 1) := by decide +kernel
theorem d_MO_copy_221 : decode b_MO_copy 221 = .ok (.iinc 8 1, 3) := by decide +kernel
theorem d_MO_copy_224 : decode b_MO_copy 224 = .ok (.goto (-58), 3) := by decide +kernel
theorem d_MO_copy_227 : decode b_MO_copy 227 = .ok (.iload 5, 2) := by decide +kernel
theorem d_MO_copy_229 : decode b_MO_copy 229 = .ok (.ireturn, 1) := by decide +kernel
theorem d_MO_begins_0 : decode b_MO_begins 0 = .ok (.aload_n 0, 1) := by decide +kernel
theorem d_MO_begins_1 : decode b_MO_begins 1 = .ok (.bipush 31, 2) := by decide +kernel
theorem d_MO_begins_3 : decode b_MO_begins 3 = .ok (.aload_n 0, 1) := by decide +kernel
theorem d_MO_begins_4 : decode b_MO_begins 4 = .ok (.getfield 190, 3) := by decide +kernel
theorem d_MO_begins_7 : decode b_MO_begins 7 = .ok (.imul, 1) := by decide +kernel
theorem d_MO_begins_8 : decode b_MO_begins 8 = .ok (.iload_n 1, 1) := by decide +kernel
theorem d_MO_begins_9 : decode b_MO_begins 9 = .ok (.iadd, 1) := by decide +kernel
theorem d_MO_begins_10 : decode b_MO_begins 10 = .ok (.putfield 190, 3) := by decide +kernel
theorem d_MO_begins_13 : decode b_MO_begins 13 = .ok (.return_, 1) := by decide +kernel
theorem d_MO_tell_0 : decode b_MO_tell 0 = .ok (.aload_n 0, 1) := by decide +kernel
theorem d_MO_tell_1 : decode b_MO_tell 1 = .ok (.iload_n 1, 1) := by decide +kernel
theorem d_MO_tell_2 : decode b_MO_tell 2 = .ok (.invokevirtual 116, 3) := by decide +kernel
theorem d_MO_tell_5 : decode b_MO_tell 5 = .ok (.ifCond .ne 5, 3) := by decide +kernel
theorem d_MO_tell_8 : decode b_MO_tell 8 = .ok (.iconst (-1), 1) := by decide +kernel
theorem d_MO_tell_9 : decode b_MO_tell 9 = .ok (.ireturn, 1) := by decide +kernel
theorem d_MO_tell_10 : decode b_MO_tell 10 = .ok (.aload_n 0, 1) := by decide +kernel
theorem d_MO_tell_11 : decode b_MO_tell 11 = .ok (.getfield 22, 3) := by decide +kernel
theorem d_MO_tell_14 : decode b_MO_tell 14 = .ok (.iload_n 1, 1) := by decide +kernel
theorem d_MO_tell_15 : decode b_MO_tell 15 = .ok (.iaload, 1) := by decide +kernel
theorem d_MO_tell_16 : decode b_MO_tell 16 = .ok (.istore_n 2, 1) := by decide +kernel
theorem d_MO_tell_17 : decode b_MO_tell 17 = .ok (.aload_n 0, 1) := by decide +kernel
theorem d_MO_tell_18 : decode b_MO_tell 18 = .ok (.getfield 19, 3) := by decide +kernel
theorem d_MO_tell_21 : decode b_MO_tell 21 = .ok (.iload_n 1, 1) := by decide +kernel
theorem d_MO_tell_22 : decode b_MO_tell 22 = .ok (.iaload, 1) := by decide +kernel
theorem d_MO_tell_23 : decode b_MO_tell 23 = .ok (.lookupswitch 67 #[(1, 25), (2, 40)], 25) := by decide +kernel
theorem d_MO_tell_48 : decode b_MO_tell 48 = .ok (.aload_n 0, 1) := by decide +kernel
theorem d_MO_tell_49 : decode b_MO_tell 49 = .ok (.iconst 2, 1) := by decide +kernel
theorem d_MO_tell_50 : decode b_MO_tell 50 = .ok (.invokevirtual 193, 3) := by decide +kernel
theorem d_MO_tell_53 : decode b_MO_tell 53 = .ok (.aload_n 0, 1) := by decide +kernel
theorem d_MO_tell_54 : decode b_MO_tell 54 = .ok (.iconst 1, 1) := by decide +kernel
theorem d_MO_tell_55 : decode b_MO_tell 55 = .ok (.invokevirtual 193, 3) := by decide +kernel
theorem d_MO_tell_58 : decode b_MO_tell 58 = .ok (.iload_n 2, 1) := by decide +kernel
theorem d_MO_tell_59 : decode b_MO_tell 59 = .ok (.bipush 100, 2) := by decide +kernel
theorem d_MO_tell_61 : decode b_MO_tell 61 = .ok (.iadd, 1) := by decide +kernel
theorem d_MO_tell_62 : decode b_MO_tell 62 = .ok (.ireturn, 1) := by decide +kernel
theorem d_MO_tell_63 : decode b_MO_tell 63 = .ok (.aload_n 0, 1) := by decide +kernel
theorem d_MO_tell_64 : decode b_MO_tell 64 = .ok (.iconst 3, 1) := by decide +kernel
theorem d_MO_tell_65 : decode b_MO_tell 65 = .ok (.invokevirtual 193, 3) := by decide +kernel
theorem d_MO_tell_68 : decode b_MO_tell 68 = .ok (.aload_n 0, 1) := by decide +kernel
theorem d_MO_tell_69 : decode b_MO_tell 69 = .ok (.iconst 2, 1) := by decide +kernel
theorem d_MO_tell_70 : decode b_MO_tell 70 = .ok (.invokevirtual 193, 3) := by decide +kernel
theorem d_MO_tell_73 : decode b_MO_tell 73 = .ok (.aload_n 0, 1) := by decide +kernel
theorem d_MO_tell_74 : decode b_MO_tell 74 = .ok (.iconst 1, 1) := by decide +kernel
theorem d_MO_tell_75 : decode b_MO_tell 75 = .ok (.invokevirtual 193, 3) := by decide +kernel
theorem d_MO_tell_78 : decode b_MO_tell 78 = .ok (.aload_n 0, 1) := by decide +kernel
theorem d_MO_tell_79 : decode b_MO_tell 79 = .ok (.iconst 1, 1) := by decide +kernel
theorem d_MO_tell_80 : decode b_MO_tell 80 = .ok (.invokevirtual 193, 3) := by decide +kernel
theorem d_MO_tell_83 : decode b_MO_tell 83 = .ok (.iconst 2, 1) := by decide +kernel
theorem d_MO_tell_84 : decode b_MO_tell 84 = .ok (.iload_n 2, 1) := by decide +kernel
theorem d_MO_tell_85 : decode b_MO_tell 85 = .ok (.imul, 1) := by decide +kernel
theorem d_MO_tell_86 : decode b_MO_tell 86 = .ok (.bipush 100, 2) := by decide +kernel
theorem d_MO_tell_88 : decode b_MO_tell 88 = .ok (.iadd, 1) := by decide +kernel
theorem d_MO_tell_89 : decode b_MO_tell 89 = .ok (.ireturn, 1) := by decide +kernel
theorem d_MO_tell_90 : decode b_MO_tell 90 = .ok (.aload_n 0, 1) := by decide +kernel
theorem d_MO_tell_91 : decode b_MO_tell 91 = .ok (.iconst 1, 1) := by decide +kernel
theorem d_MO_tell_92 : decode b_MO_tell 92 = .ok (.invokevirtual 193, 3) := by decide +kernel
theorem d_MO_tell_95 : decode b_MO_tell 95 = .ok (.iload_n 2, 1) := by decide +kernel
theorem d_MO_tell_96 : decode b_MO_tell 96 = .ok (.ireturn, 1) := by decide +kernel
theorem d_MO_greet_0 : decode b_MO_greet 0 = .ok (.aload_n 0, 1) := by decide +kernel
theorem d_MO_greet_1 : decode b_MO_greet 1 = .ok (.iload_n 1, 1) := by decide +kernel
theorem d_MO_greet_2 : decode b_MO_greet 2 = .ok (.invokevirtual 116, 3) := by decide +kernel
theorem d_MO_greet_5 : decode b_MO_greet 5 = .ok (.ifCond .ne 5, 3) := by decide +kernel
theorem d_MO_greet_8 : decode b_MO_greet 8 = .ok (.iconst (-1), 1) := by decide +kernel
theorem d_MO_greet_9 : decode b_MO_greet 9 = .ok (.ireturn, 1) := by decide +kernel
theorem d_MO_greet_10 : decode b_MO_greet 10 = .ok (.aload_n 0, 1) := by decide +kernel
theorem d_MO_greet_11 : decode b_MO_greet 11 = .ok (.aload_n 0, 1) := by decide +kernel
theorem d_MO_greet_12 : decode b_MO_greet 12 = .ok (.getfield 19, 3) := by decide +kernel
theorem d_MO_greet_15 : decode b_MO_greet 15 = .ok (.iload_n 1, 1) := by decide +kernel
theorem d_MO_greet_16 : decode b_MO_greet 16 = .ok (.iaload, 1) := by decide +kernel
theorem d_MO_greet_17 : decode b_MO_greet 17 = .ok (.iconst 2, 1) := by decide +kernel
theorem d_MO_greet_18 : decode b_MO_greet 18 = .ok (.if_icmp .ne 7, 3) := by decide +kernel
theorem d_MO_greet_21 : decode b_MO_greet 21 = .ok (.iconst 5, 1) := by decide +kernel
theorem d_MO_greet_22 : decode b_MO_greet 22 = .ok (.goto 4, 3) := by decide +kernel
theorem d_MO_greet_25 : decode b_MO_greet 25 = .ok (.iconst 4, 1) := by decide +kernel
theorem d_MO_greet_26 : decode b_MO_greet 26 = .ok (.invokevirtual 193, 3) := by decide +kernel
theorem d_MO_greet_29 : decode b_MO_greet 29 = .ok (.aload_n 0, 1) := by decide +kernel
theorem d_MO_greet_30 : decode b_MO_greet 30 = .ok (.getfield 19, 3) := by decide +kernel
theorem d_MO_greet_33 : decode b_MO_greet 33 = .ok (.iload_n 1, 1) := by decide +kernel
theorem d_MO_greet_34 : decode b_MO_greet 34 = .ok (.iaload, 1) := by decide +kernel
theorem d_MO_greet_35 : decode b_MO_greet 35 = .ok (.iconst 2, 1) := by decide +kernel
theorem d_MO_greet_36 : decode b_MO_greet 36 = .ok (.if_icmp .ne 8, 3) := by decide +kernel
theorem d_MO_greet_39 : decode b_MO_greet 39 = .ok (.bipush 90, 2) := by decide +kernel
theorem d_MO_greet_41 : decode b_MO_greet 41 = .ok (.goto 4, 3) := by decide +kernel
theorem d_MO_greet_44 : decode b_MO_greet 44 = .ok (.iload_n 1, 1) := by decide +kernel
theorem d_MO_greet_45 : decode b_MO_greet 45 = .ok (.ireturn, 1) := by decide +kernel
theorem d_MO_as_0 : decode b_MO_as 0 = .ok (.aload_n 0, 1) := by decide +kernel
theorem d_MO_as_1 : decode b_MO_as 1 = .ok (.iconst 0, 1) := by decide +kernel
theorem d_MO_as_2 : decode b_MO_as 2 = .ok (.putfield 70, 3) := by decide +kernel
theorem d_MO_as_5 : decode b_MO_as 5 = .ok (.aload_n 0, 1) := by decide +kernel
theorem d_MO_as_6 : decode b_MO_as 6 = .ok (.iload_n 1, 1) := by decide +kernel
theorem d_MO_as_7 : decode b_MO_as 7 = .ok (.invokevirtual 116, 3) := by decide +kernel
theorem d_MO_as_10 : decode b_MO_as 10 = .ok (.ifCond .ne 5, 3) := by decide +kernel
theorem d_MO_as_13 : decode b_MO_as 13 = .ok (.iconst (-1), 1) := by decide +kernel
theorem d_MO_as_14 : decode b_MO_as 14 = .ok (.ireturn, 1) := by decide +kernel
theorem d_MO_as_15 : decode b_MO_as 15 = .ok (.iload_n 2, 1) := by decide +kernel
theorem d_MO_as_16 : decode b_MO_as 16 = .ok (.iconst 0, 1) := by decide +kernel
theorem d_MO_as_17 : decode b_MO_as 17 = .ok (.iconst 2, 1) := by decide +kernel
theorem d_MO_as_18 : decode b_MO_as 18 = .ok (.invokestatic 76, 3) := by decide +kernel
theorem d_MO_as_21 : decode b_MO_as 21 = .ok (.ifCond .ne 6, 3) := by decide +kernel
theorem d_MO_as_24 : decode b_MO_as 24 = .ok (.bipush (-2), 2) := by decide +kernel
theorem d_MO_as_26 : decode b_MO_as 26 = .ok (.ireturn, 1) := by decide +kernel
theorem d_MO_as_27 : decode b_MO_as 27 = .ok (.aload_n 0, 1) := by decide +kernel
theorem d_MO_as_28 : decode b_MO_as 28 = .ok (.getfield 19, 3) := by decide +kernel
theorem d_MO_as_31 : decode b_MO_as 31 = .ok (.iload_n 1, 1) := by decide +kernel
theorem d_MO_as_32 : decode b_MO_as 32 = .ok (.iaload, 1) := by decide +kernel
theorem d_MO_as_33 : decode b_MO_as 33 = .ok (.iload_n 2, 1) := by decide +kernel
theorem d_MO_as_34 : decode b_MO_as 34 = .ok (.if_icmp .lt 7, 3) := by decide +kernel
theorem d_MO_as_37 : decode b_MO_as 37 = .ok (.iconst 1, 1) := by decide +kernel
theorem d_MO_as_38 : decode b_MO_as 38 = .ok (.goto 8, 3) := by decide +kernel
theorem d_MO_as_41 : decode b_MO_as 41 = .ok (.aload_n 0, 1) := by decide +kernel
theorem d_MO_as_42 : decode b_MO_as 42 = .ok (.iconst 2, 1) := by decide +kernel
theorem d_MO_as_43 : decode b_MO_as 43 = .ok (.invokevirtual 94, 3) := by decide +kernel
theorem d_MO_as_46 : decode b_MO_as 46 = .ok (.ireturn, 1) := by decide +kernel
theorem d_MO_trace_0 : decode b_MO_trace 0 = .ok (.aload_n 0, 1) := by decide +kernel
theorem d_MO_trace_1 : decode b_MO_trace 1 = .ok (.getfield 190, 3) := by decide +kernel
theorem d_MO_trace_4 : decode b_MO_trace 4 = .ok (.ireturn, 1) := by decide +kernel
theorem d_MO_fault_0 : decode b_MO_fault 0 = .ok (.aload_n 0, 1) := by decide +kernel
theorem d_MO_fault_1 : decode b_MO_fault 1 = .ok (.getfield 70, 3) := by decide +kernel
theorem d_MO_fault_4 : decode b_MO_fault 4 = .ok (.ireturn, 1) := by decide +kernel
theorem d_MO_many_0 : decode b_MO_many 0 = .ok (.iload_n 1, 1) := by decide +kernel
theorem d_MO_many_1 : decode b_MO_many 1 = .ok (.ifCond .ne 10, 3) := by decide +kernel
theorem d_MO_many_4 : decode b_MO_many 4 = .ok (.aload_n 0, 1) := by decide +kernel
theorem d_MO_many_5 : decode b_MO_many 5 = .ok (.getfield 80, 3) := by decide +kernel
theorem d_MO_many_8 : decode b_MO_many 8 = .ok (.goto 29, 3) := by decide +kernel
theorem d_MO_many_11 : decode b_MO_many 11 = .ok (.iload_n 1, 1) := by decide +kernel
theorem d_MO_many_12 : decode b_MO_many 12 = .ok (.iconst 1, 1) := by decide +kernel
theorem d_MO_many_13 : decode b_MO_many 13 = .ok (.if_icmp .ne 10, 3) := by decide +kernel
theorem d_MO_many_16 : decode b_MO_many 16 = .ok (.aload_n 0, 1) := by decide +kernel
theorem d_MO_many_17 : decode b_MO_many 17 = .ok (.getfield 110, 3) := by decide +kernel
theorem d_MO_many_20 : decode b_MO_many 20 = .ok (.goto 17, 3) := by decide +kernel
theorem d_MO_many_23 : decode b_MO_many 23 = .ok (.iload_n 1, 1) := by decide +kernel
theorem d_MO_many_24 : decode b_MO_many 24 = .ok (.iconst 2, 1) := by decide +kernel
theorem d_MO_many_25 : decode b_MO_many 25 = .ok (.if_icmp .ne 10, 3) := by decide +kernel
theorem d_MO_many_28 : decode b_MO_many 28 = .ok (.aload_n 0, 1) := by decide +kernel
theorem d_MO_many_29 : decode b_MO_many 29 = .ok (.getfield 107, 3) := by decide +kernel
theorem d_MO_many_32 : decode b_MO_many 32 = .ok (.goto 5, 3) := by decide +kernel
theorem d_MO_many_35 : decode b_MO_many 35 = .ok (.bipush (-2), 2) := by decide +kernel
theorem d_MO_many_37 : decode b_MO_many 37 = .ok (.ireturn, 1) := by decide +kernel
theorem d_LA_init_0 : decode b_LA_init 0 = .ok (.aload_n 0, 1) := by decide +kernel
theorem d_LA_init_1 : decode b_LA_init 1 = .ok (.iload_n 1, 1) := by decide +kernel
theorem d_LA_init_2 : decode b_LA_init 2 = .ok (.iload_n 2, 1) := by decide +kernel
theorem d_LA_init_3 : decode b_LA_init 3 = .ok (.invokespecial 3, 3) := by decide +kernel
theorem d_LA_init_6 : decode b_LA_init 6 = .ok (.return_, 1) := by decide +kernel
theorem d_LA_kind_0 : decode b_LA_kind 0 = .ok (.iconst 2, 1) := by decide +kernel
theorem d_LA_kind_1 : decode b_LA_kind 1 = .ok (.ireturn, 1) := by decide +kernel
theorem d_LA_shows_0 : decode b_LA_shows 0 = .ok (.aload_n 0, 1) := by decide +kernel
theorem d_LA_shows_1 : decode b_LA_shows 1 = .ok (.iload_n 1, 1) := by decide +kernel
theorem d_LA_shows_2 : decode b_LA_shows 2 = .ok (.invokespecial 9, 3) := by decide +kernel
theorem d_LA_shows_5 : decode b_LA_shows 5 = .ok (.iload_n 1, 1) := by decide +kernel
theorem d_LA_shows_6 : decode b_LA_shows 6 = .ok (.iconst 2, 1) := by decide +kernel
theorem d_LA_shows_7 : decode b_LA_shows 7 = .ok (.idiv, 1) := by decide +kernel
theorem d_LA_shows_8 : decode b_LA_shows 8 = .ok (.iadd, 1) := by decide +kernel
theorem d_LA_shows_9 : decode b_LA_shows 9 = .ok (.ireturn, 1) := by decide +kernel
theorem d_LA_telling_0 : decode b_LA_telling 0 = .ok (.aload_n 1, 1) := by decide +kernel
theorem d_LA_telling_1 : decode b_LA_telling 1 = .ok (.iconst 3, 1) := by decide +kernel
theorem d_LA_telling_2 : decode b_LA_telling 2 = .ok (.invokevirtual 13, 3) := by decide +kernel
theorem d_LA_telling_5 : decode b_LA_telling 5 = .ok (.aload_n 0, 1) := by decide +kernel
theorem d_LA_telling_6 : decode b_LA_telling 6 = .ok (.aload_n 1, 1) := by decide +kernel
theorem d_LA_telling_7 : decode b_LA_telling 7 = .ok (.invokespecial 19, 3) := by decide +kernel
theorem d_LA_telling_10 : decode b_LA_telling 10 = .ok (.istore_n 2, 1) := by decide +kernel
theorem d_LA_telling_11 : decode b_LA_telling 11 = .ok (.iload_n 2, 1) := by decide +kernel
theorem d_LA_telling_12 : decode b_LA_telling 12 = .ok (.aload_n 0, 1) := by decide +kernel
theorem d_LA_telling_13 : decode b_LA_telling 13 = .ok (.aload_n 1, 1) := by decide +kernel
theorem d_LA_telling_14 : decode b_LA_telling 14 = .ok (.invokevirtual 23, 3) := by decide +kernel
theorem d_LA_telling_17 : decode b_LA_telling 17 = .ok (.iadd, 1) := by decide +kernel
theorem d_LA_telling_18 : decode b_LA_telling 18 = .ok (.ireturn, 1) := by decide +kernel
theorem d_LA_greeting_0 : decode b_LA_greeting 0 = .ok (.aload_n 1, 1) := by decide +kernel
theorem d_LA_greeting_1 : decode b_LA_greeting 1 = .ok (.iconst 5, 1) := by decide +kernel
theorem d_LA_greeting_2 : decode b_LA_greeting 2 = .ok (.invokevirtual 13, 3) := by decide +kernel
theorem d_LA_greeting_5 : decode b_LA_greeting 5 = .ok (.bipush 90, 2) := by decide +kernel
theorem d_LA_greeting_7 : decode b_LA_greeting 7 = .ok (.ireturn, 1) := by decide +kernel
theorem d_LE_init_0 : decode b_LE_init 0 = .ok (.aload_n 0, 1) := by decide +kernel
theorem d_LE_init_1 : decode b_LE_init 1 = .ok (.invokespecial 3, 3) := by decide +kernel
theorem d_LE_init_4 : decode b_LE_init 4 = .ok (.aload_n 0, 1) := by decide +kernel
theorem d_LE_init_5 : decode b_LE_init 5 = .ok (.bipush 24, 2) := by decide +kernel
theorem d_LE_init_7 : decode b_LE_init 7 = .ok (.newarray .int, 2) := by decide +kernel
theorem d_LE_init_9 : decode b_LE_init 9 = .ok (.putfield 9, 3) := by decide +kernel
theorem d_LE_init_12 : decode b_LE_init 12 = .ok (.aload_n 0, 1) := by decide +kernel
theorem d_LE_init_13 : decode b_LE_init 13 = .ok (.bipush 24, 2) := by decide +kernel
theorem d_LE_init_15 : decode b_LE_init 15 = .ok (.newarray .int, 2) := by decide +kernel
theorem d_LE_init_17 : decode b_LE_init 17 = .ok (.putfield 15, 3) := by decide +kernel
theorem d_LE_init_20 : decode b_LE_init 20 = .ok (.aload_n 0, 1) := by decide +kernel
theorem d_LE_init_21 : decode b_LE_init 21 = .ok (.bipush 24, 2) := by decide +kernel
theorem d_LE_init_23 : decode b_LE_init 23 = .ok (.newarray .int, 2) := by decide +kernel
theorem d_LE_init_25 : decode b_LE_init 25 = .ok (.putfield 18, 3) := by decide +kernel
theorem d_LE_init_28 : decode b_LE_init 28 = .ok (.aload_n 0, 1) := by decide +kernel
theorem d_LE_init_29 : decode b_LE_init 29 = .ok (.bipush 24, 2) := by decide +kernel
theorem d_LE_init_31 : decode b_LE_init 31 = .ok (.newarray .int, 2) := by decide +kernel
theorem d_LE_init_33 : decode b_LE_init 33 = .ok (.putfield 21, 3) := by decide +kernel
theorem d_LE_init_36 : decode b_LE_init 36 = .ok (.aload_n 0, 1) := by decide +kernel
theorem d_LE_init_37 : decode b_LE_init 37 = .ok (.bipush 24, 2) := by decide +kernel
theorem d_LE_init_39 : decode b_LE_init 39 = .ok (.newarray .int, 2) := by decide +kernel
theorem d_LE_init_41 : decode b_LE_init 41 = .ok (.putfield 24, 3) := by decide +kernel
theorem d_LE_init_44 : decode b_LE_init 44 = .ok (.aload_n 0, 1) := by decide +kernel
theorem d_LE_init_45 : decode b_LE_init 45 = .ok (.bipush 24, 2) := by decide +kernel
theorem d_LE_init_47 : decode b_LE_init 47 = .ok (.newarray .int, 2) := by decide +kernel
theorem d_LE_init_49 : decode b_LE_init 49 = .ok (.putfield 27, 3) := by decide +kernel
theorem d_LE_init_52 : decode b_LE_init 52 = .ok (.aload_n 0, 1) := by decide +kernel
theorem d_LE_init_53 : decode b_LE_init 53 = .ok (.bipush 24, 2) := by decide +kernel
theorem d_LE_init_55 : decode b_LE_init 55 = .ok (.newarray .int, 2) := by decide +kernel
theorem d_LE_init_57 : decode b_LE_init 57 = .ok (.putfield 30, 3) := by decide +kernel
theorem d_LE_init_60 : decode b_LE_init 60 = .ok (.return_, 1) := by decide +kernel
theorem d_LE_has_0 : decode b_LE_has 0 = .ok (.iload_n 1, 1) := by decide +kernel
theorem d_LE_has_1 : decode b_LE_has 1 = .ok (.ifCond .lt 15, 3) := by decide +kernel
theorem d_LE_has_4 : decode b_LE_has 4 = .ok (.iload_n 1, 1) := by decide +kernel
theorem d_LE_has_5 : decode b_LE_has 5 = .ok (.aload_n 0, 1) := by decide +kernel
theorem d_LE_has_6 : decode b_LE_has 6 = .ok (.getfield 33, 3) := by decide +kernel
theorem d_LE_has_9 : decode b_LE_has 9 = .ok (.if_icmp .ge 7, 3) := by decide +kernel
theorem d_LE_has_12 : decode b_LE_has 12 = .ok (.iconst 1, 1) := by decide +kernel
theorem d_LE_has_13 : decode b_LE_has 13 = .ok (.goto 4, 3) := by decide +kernel
theorem d_LE_has_16 : decode b_LE_has 16 = .ok (.iconst 0, 1) := by decide +kernel
theorem d_LE_has_17 : decode b_LE_has 17 = .ok (.ireturn, 1) := by decide +kernel
theorem d_LE_isFull_0 : decode b_LE_isFull 0 = .ok (.aload_n 0, 1) := by decide +kernel
theorem d_LE_isFull_1 : decode b_LE_isFull 1 = .ok (.getfield 33, 3) := by decide +kernel
theorem d_LE_isFull_4 : decode b_LE_isFull 4 = .ok (.bipush 24, 2) := by decide +kernel
theorem d_LE_isFull_6 : decode b_LE_isFull 6 = .ok (.if_icmp .lt 7, 3) := by decide +kernel
theorem d_LE_isFull_9 : decode b_LE_isFull 9 = .ok (.iconst 1, 1) := by decide +kernel
theorem d_LE_isFull_10 : decode b_LE_isFull 10 = .ok (.goto 4, 3) := by decide +kernel
theorem d_LE_isFull_13 : decode b_LE_isFull 13 = .ok (.iconst 0, 1) := by decide +kernel
theorem d_LE_isFull_14 : decode b_LE_isFull 14 = .ok (.ireturn, 1) := by decide +kernel
theorem d_LE_isAnswered_0 : decode b_LE_isAnswered 0 = .ok (.aload_n 0, 1) := by decide +kernel
theorem d_LE_isAnswered_1 : decode b_LE_isAnswered 1 = .ok (.aload_n 0, 1) := by decide +kernel
theorem d_LE_isAnswered_2 : decode b_LE_isAnswered 2 = .ok (.getfield 27, 3) := by decide +kernel
theorem d_LE_isAnswered_5 : decode b_LE_isAnswered 5 = .ok (.iload_n 1, 1) := by decide +kernel
theorem d_LE_isAnswered_6 : decode b_LE_isAnswered 6 = .ok (.iaload, 1) := by decide +kernel
theorem d_LE_isAnswered_7 : decode b_LE_isAnswered 7 = .ok (.invokevirtual 37, 3) := by decide +kernel
theorem d_LE_isAnswered_10 : decode b_LE_isAnswered 10 = .ok (.ireturn, 1) := by decide +kernel
theorem d_LE_write_0 : decode b_LE_write 0 = .ok (.aload_n 0, 1) := by decide +kernel
theorem d_LE_write_1 : decode b_LE_write 1 = .ok (.getfield 33, 3) := by decide +kernel
theorem d_LE_write_4 : decode b_LE_write 4 = .ok (.istore 5, 2) := by decide +kernel
theorem d_LE_write_6 : decode b_LE_write 6 = .ok (.aload_n 0, 1) := by decide +kernel
theorem d_LE_write_7 : decode b_LE_write 7 = .ok (.getfield 9, 3) := by decide +kernel
theorem d_LE_write_10 : decode b_LE_write 10 = .ok (.iload 5, 2) := by decide +kernel
theorem d_LE_write_12 : decode b_LE_write 12 = .ok (.aload_n 1, 1) := by decide +kernel
theorem d_LE_write_13 : decode b_LE_write 13 = .ok (.getfield 41, 3) := by decide +kernel
theorem d_LE_write_16 : decode b_LE_write 16 = .ok (.iastore, 1) := by decide +kernel
theorem d_LE_write_17 : decode b_LE_write 17 = .ok (.aload_n 0, 1) := by decide +kernel
theorem d_LE_write_18 : decode b_LE_write 18 = .ok (.getfield 15, 3) := by decide +kernel
theorem d_LE_write_21 : decode b_LE_write 21 = .ok (.iload 5, 2) := by decide +kernel
theorem d_LE_write_23 : decode b_LE_write 23 = .ok (.iload_n 2, 1) := by decide +kernel
theorem d_LE_write_24 : decode b_LE_write 24 = .ok (.iastore, 1) := by decide +kernel
theorem d_LE_write_25 : decode b_LE_write 25 = .ok (.aload_n 0, 1) := by decide +kernel
theorem d_LE_write_26 : decode b_LE_write 26 = .ok (.getfield 18, 3) := by decide +kernel
theorem d_LE_write_29 : decode b_LE_write 29 = .ok (.iload 5, 2) := by decide +kernel
theorem d_LE_write_31 : decode b_LE_write 31 = .ok (.iload_n 3, 1) := by decide +kernel
theorem d_LE_write_32 : decode b_LE_write 32 = .ok (.iastore, 1) := by decide +kernel
theorem d_LE_write_33 : decode b_LE_write 33 = .ok (.aload_n 0, 1) := by decide +kernel
theorem d_LE_write_34 : decode b_LE_write 34 = .ok (.getfield 21, 3) := by decide +kernel
theorem d_LE_write_37 : decode b_LE_write 37 = .ok (.iload 5, 2) := by decide +kernel
theorem d_LE_write_39 : decode b_LE_write 39 = .ok (.iload 4, 2) := by decide +kernel
theorem d_LE_write_41 : decode b_LE_write 41 = .ok (.iastore, 1) := by decide +kernel
theorem d_LE_write_42 : decode b_LE_write 42 = .ok (.aload_n 0, 1) := by decide +kernel
theorem d_LE_write_43 : decode b_LE_write 43 = .ok (.getfield 24, 3) := by decide +kernel
theorem d_LE_write_46 : decode b_LE_write 46 = .ok (.iload 5, 2) := by decide +kernel
theorem d_LE_write_48 : decode b_LE_write 48 = .ok (.aload_n 1, 1) := by decide +kernel
theorem d_LE_write_49 : decode b_LE_write 49 = .ok (.iload_n 3, 1) := by decide +kernel
theorem d_LE_write_50 : decode b_LE_write 50 = .ok (.invokevirtual 46, 3) := by decide +kernel
theorem d_LE_write_53 : decode b_LE_write 53 = .ok (.iastore, 1) := by decide +kernel
theorem d_LE_write_54 : decode b_LE_write 54 = .ok (.aload_n 0, 1) := by decide +kernel
theorem d_LE_write_55 : decode b_LE_write 55 = .ok (.getfield 27, 3) := by decide +kernel
theorem d_LE_write_58 : decode b_LE_write 58 = .ok (.iload 5, 2) := by decide +kernel
theorem d_LE_write_60 : decode b_LE_write 60 = .ok (.bipush (-9), 2) := by decide +kernel
theorem d_LE_write_62 : decode b_LE_write 62 = .ok (.iastore, 1) := by decide +kernel
theorem d_LE_write_63 : decode b_LE_write 63 = .ok (.aload_n 0, 1) := by decide +kernel
theorem d_LE_write_64 : decode b_LE_write 64 = .ok (.getfield 30, 3) := by decide +kernel
theorem d_LE_write_67 : decode b_LE_write 67 = .ok (.iload 5, 2) := by decide +kernel
theorem d_LE_write_69 : decode b_LE_write 69 = .ok (.bipush (-9), 2) := by decide +kernel
theorem d_LE_write_71 : decode b_LE_write 71 = .ok (.iastore, 1) := by decide +kernel
theorem d_LE_write_72 : decode b_LE_write 72 = .ok (.aload_n 0, 1) := by decide +kernel
theorem d_LE_write_73 : decode b_LE_write 73 = .ok (.dup, 1) := by decide +kernel
theorem d_LE_write_74 : decode b_LE_write 74 = .ok (.getfield 33, 3) := by decide +kernel
theorem d_LE_write_77 : decode b_LE_write 77 = .ok (.iconst 1, 1) := by decide +kernel
theorem d_LE_write_78 : decode b_LE_write 78 = .ok (.iadd, 1) := by decide +kernel
theorem d_LE_write_79 : decode b_LE_write 79 = .ok (.putfield 33, 3) := by decide +kernel
theorem d_LE_write_82 : decode b_LE_write 82 = .ok (.iload 5, 2) := by decide +kernel
theorem d_LE_write_84 : decode b_LE_write 84 = .ok (.ireturn, 1) := by decide +kernel
theorem d_LE_pair_0 : decode b_LE_pair 0 = .ok (.aload_n 0, 1) := by decide +kernel
theorem d_LE_pair_1 : decode b_LE_pair 1 = .ok (.getfield 27, 3) := by decide +kernel
theorem d_LE_pair_4 : decode b_LE_pair 4 = .ok (.iload_n 1, 1) := by decide +kernel
theorem d_LE_pair_5 : decode b_LE_pair 5 = .ok (.iload_n 2, 1) := by decide +kernel
theorem d_LE_pair_6 : decode b_LE_pair 6 = .ok (.iastore, 1) := by decide +kernel
theorem d_LE_pair_7 : decode b_LE_pair 7 = .ok (.aload_n 0, 1) := by decide +kernel
theorem d_LE_pair_8 : decode b_LE_pair 8 = .ok (.getfield 30, 3) := by decide +kernel
theorem d_LE_pair_11 : decode b_LE_pair 11 = .ok (.iload_n 2, 1) := by decide +kernel
theorem d_LE_pair_12 : decode b_LE_pair 12 = .ok (.iload_n 1, 1) := by decide +kernel
theorem d_LE_pair_13 : decode b_LE_pair 13 = .ok (.iastore, 1) := by decide +kernel
theorem d_LE_pair_14 : decode b_LE_pair 14 = .ok (.return_, 1) := by decide +kernel
theorem d_LE_burnLast_0 : decode b_LE_burnLast 0 = .ok (.iconst 0, 1) := by decide +kernel
theorem d_LE_burnLast_1 : decode b_LE_burnLast 1 = .ok (.istore_n 2, 1) := by decide +kernel
theorem d_LE_burnLast_2 : decode b_LE_burnLast 2 = .ok (.iload_n 2, 1) := by decide +kernel
theorem d_LE_burnLast_3 : decode b_LE_burnLast 3 = .ok (.iload_n 1, 1) := by decide +kernel
theorem d_LE_burnLast_4 : decode b_LE_burnLast 4 = .ok (.if_icmp .ge 58, 3) := by decide +kernel
theorem d_LE_burnLast_7 : decode b_LE_burnLast 7 = .ok (.aload_n 0, 1) := by decide +kernel
theorem d_LE_burnLast_8 : decode b_LE_burnLast 8 = .ok (.getfield 33, 3) := by decide +kernel
theorem d_LE_burnLast_11 : decode b_LE_burnLast 11 = .ok (.ifCond .le 51, 3) := by decide +kernel
theorem d_LE_burnLast_14 : decode b_LE_burnLast 14 = .ok (.aload_n 0, 1) := by decide +kernel
theorem d_LE_burnLast_15 : decode b_LE_burnLast 15 = .ok (.dup, 1) := by decide +kernel
theorem d_LE_burnLast_16 : decode b_LE_burnLast 16 = .ok (.getfield 33, 3) := by decide +kernel
theorem d_LE_burnLast_19 : decode b_LE_burnLast 19 = .ok (.iconst 1, 1) := by decide +kernel
theorem d_LE_burnLast_20 : decode b_LE_burnLast 20 = .ok (.isub, 1) := by decide +kernel
theorem d_LE_burnLast_21 : decode b_LE_burnLast 21 = .ok (.putfield 33, 3) := by decide +kernel
theorem d_LE_burnLast_24 : decode b_LE_burnLast 24 = .ok (.aload_n 0, 1) := by decide +kernel
theorem d_LE_burnLast_25 : decode b_LE_burnLast 25 = .ok (.aload_n 0, 1) := by decide +kernel
theorem d_LE_burnLast_26 : decode b_LE_burnLast 26 = .ok (.getfield 30, 3) := by decide +kernel
theorem d_LE_burnLast_29 : decode b_LE_burnLast 29 = .ok (.aload_n 0, 1) := by decide +kernel
theorem d_LE_burnLast_30 : decode b_LE_burnLast 30 = .ok (.getfield 33, 3) := by decide +kernel
theorem d_LE_burnLast_33 : decode b_LE_burnLast 33 = .ok (.iaload, 1) := by decide +kernel
theorem d_LE_burnLast_34 : decode b_LE_burnLast 34 = .ok (.invokevirtual 37, 3) := by decide +kernel
theorem d_LE_burnLast_37 : decode b_LE_burnLast 37 = .ok (.ifCond .eq 19, 3) := by decide +kernel
theorem d_LE_burnLast_40 : decode b_LE_burnLast 40 = .ok (.aload_n 0, 1) := by decide +kernel
theorem d_LE_burnLast_41 : decode b_LE_burnLast 41 = .ok (.getfield 27, 3) := by decide +kernel
theorem d_LE_burnLast_44 : decode b_LE_burnLast 44 = .ok (.aload_n 0, 1) := by decide +kernel
theorem d_LE_burnLast_45 : decode b_LE_burnLast 45 = .ok (.getfield 30, 3) := by decide +kernel
theorem d_LE_burnLast_48 : decode b_LE_burnLast 48 = .ok (.aload_n 0, 1) := by decide +kernel
theorem d_LE_burnLast_49 : decode b_LE_burnLast 49 = .ok (.getfield 33, 3) := by decide +kernel
theorem d_LE_burnLast_52 : decode b_LE_burnLast 52 = .ok (.iaload, 1) := by decide +kernel
theorem d_LE_burnLast_53 : decode b_LE_burnLast 53 = .ok (.bipush (-9), 2) := by decide +kernel
theorem d_LE_burnLast_55 : decode b_LE_burnLast 55 = .ok (.iastore, 1) := by decide +kernel
theorem d_LE_burnLast_56 : decode b_LE_burnLast 56 = .ok (.iinc 2 1, 3) := by decide +kernel
theorem d_LE_burnLast_59 : decode b_LE_burnLast 59 = .ok (.goto (-57), 3) := by decide +kernel
theorem d_LE_burnLast_62 : decode b_LE_burnLast 62 = .ok (.return_, 1) := by decide +kernel
theorem d_LE_paidBy_0 : decode b_LE_paidBy 0 = .ok (.aload_n 0, 1) := by decide +kernel
theorem d_LE_paidBy_1 : decode b_LE_paidBy 1 = .ok (.iload_n 1, 1) := by decide +kernel
theorem d_LE_paidBy_2 : decode b_LE_paidBy 2 = .ok (.iload_n 2, 1) := by decide +kernel
theorem d_LE_paidBy_3 : decode b_LE_paidBy 3 = .ok (.iload_n 3, 1) := by decide +kernel
theorem d_LE_paidBy_4 : decode b_LE_paidBy 4 = .ok (.bipush (-9), 2) := by decide +kernel
theorem d_LE_paidBy_6 : decode b_LE_paidBy 6 = .ok (.iconst 0, 1) := by decide +kernel
theorem d_LE_paidBy_7 : decode b_LE_paidBy 7 = .ok (.invokevirtual 50, 3) := by decide +kernel
theorem d_LE_paidBy_10 : decode b_LE_paidBy 10 = .ok (.ireturn, 1) := by decide +kernel
theorem d_LE_paidIf_0 : decode b_LE_paidIf 0 = .ok (.iconst 0, 1) := by decide +kernel
theorem d_LE_paidIf_1 : decode b_LE_paidIf 1 = .ok (.istore 6, 2) := by decide +kernel
theorem d_LE_paidIf_3 : decode b_LE_paidIf 3 = .ok (.iconst 0, 1) := by decide +kernel
theorem d_LE_paidIf_4 : decode b_LE_paidIf 4 = .ok (.istore 7, 2) := by decide +kernel
theorem d_LE_paidIf_6 : decode b_LE_paidIf 6 = .ok (.iload 7, 2) := by decide +kernel
theorem d_LE_paidIf_8 : decode b_LE_paidIf 8 = .ok (.aload_n 0, 1) := by decide +kernel
theorem d_LE_paidIf_9 : decode b_LE_paidIf 9 = .ok (.getfield 33, 3) := by decide +kernel
theorem d_LE_paidIf_12 : decode b_LE_paidIf 12 = .ok (.if_icmp .ge 131, 3) := by decide +kernel
theorem d_LE_paidIf_15 : decode b_LE_paidIf 15 = .ok (.aload_n 0, 1) := by decide +kernel
theorem d_LE_paidIf_16 : decode b_LE_paidIf 16 = .ok (.getfield 27, 3) := by decide +kernel
theorem d_LE_paidIf_19 : decode b_LE_paidIf 19 = .ok (.iload 7, 2) := by decide +kernel
theorem d_LE_paidIf_21 : decode b_LE_paidIf 21 = .ok (.iaload, 1) := by decide +kernel
theorem d_LE_paidIf_22 : decode b_LE_paidIf 22 = .ok (.istore 8, 2) := by decide +kernel
theorem d_LE_paidIf_24 : decode b_LE_paidIf 24 = .ok (.aload_n 0, 1) := by decide +kernel
theorem d_LE_paidIf_25 : decode b_LE_paidIf 25 = .ok (.iload 8, 2) := by decide +kernel
theorem d_LE_paidIf_27 : decode b_LE_paidIf 27 = .ok (.invokevirtual 37, 3) := by decide +kernel
theorem d_LE_paidIf_30 : decode b_LE_paidIf 30 = .ok (.ifCond .eq 107, 3) := by decide +kernel
theorem d_LE_paidIf_33 : decode b_LE_paidIf 33 = .ok (.aload_n 0, 1) := by decide +kernel
theorem d_LE_paidIf_34 : decode b_LE_paidIf 34 = .ok (.getfield 21, 3) := by decide +kernel
theorem d_LE_paidIf_37 : decode b_LE_paidIf 37 = .ok (.iload 8, 2) := by decide +kernel
theorem d_LE_paidIf_39 : decode b_LE_paidIf 39 = .ok (.iaload, 1) := by decide +kernel
theorem d_LE_paidIf_40 : decode b_LE_paidIf 40 = .ok (.iload_n 2, 1) := by decide +kernel
theorem d_LE_paidIf_41 : decode b_LE_paidIf 41 = .ok (.if_icmp .gt 96, 3) := by decide +kernel
theorem d_LE_paidIf_44 : decode b_LE_paidIf 44 = .ok (.iload 7, 2) := by decide +kernel
theorem d_LE_paidIf_46 : decode b_LE_paidIf 46 = .ok (.iload 4, 2) := by decide +kernel
theorem d_LE_paidIf_48 : decode b_LE_paidIf 48 = .ok (.if_icmp .ne 8, 3) := by decide +kernel
theorem d_LE_paidIf_51 : decode b_LE_paidIf 51 = .ok (.iload 5, 2) := by decide +kernel
theorem d_LE_paidIf_53 : decode b_LE_paidIf 53 = .ok (.goto 10, 3) := by decide +kernel
theorem d_LE_paidIf_56 : decode b_LE_paidIf 56 = .ok (.aload_n 0, 1) := by decide +kernel
theorem d_LE_paidIf_57 : decode b_LE_paidIf 57 = .ok (.getfield 24, 3) := by decide +kernel
theorem d_LE_paidIf_60 : decode b_LE_paidIf 60 = .ok (.iload 7, 2) := by decide +kernel
theorem d_LE_paidIf_62 : decode b_LE_paidIf 62 = .ok (.iaload, 1) := by decide +kernel
theorem d_LE_paidIf_63 : decode b_LE_paidIf 63 = .ok (.istore 9, 2) := by decide +kernel
theorem d_LE_paidIf_65 : decode b_LE_paidIf 65 = .ok (.iload 8, 2) := by decide +kernel
theorem d_LE_paidIf_67 : decode b_LE_paidIf 67 = .ok (.iload 4, 2) := by decide +kernel
theorem d_LE_paidIf_69 : decode b_LE_paidIf 69 = .ok (.if_icmp .ne 8, 3) := by decide +kernel
theorem d_LE_paidIf_72 : decode b_LE_paidIf 72 = .ok (.iload 5, 2) := by decide +kernel
theorem d_LE_paidIf_74 : decode b_LE_paidIf 74 = .ok (.goto 10, 3) := by decide +kernel
theorem d_LE_paidIf_77 : decode b_LE_paidIf 77 = .ok (.aload_n 0, 1) := by decide +kernel
theorem d_LE_paidIf_78 : decode b_LE_paidIf 78 = .ok (.getfield 24, 3) := by decide +kernel
theorem d_LE_paidIf_81 : decode b_LE_paidIf 81 = .ok (.iload 8, 2) := by decide +kernel
theorem d_LE_paidIf_83 : decode b_LE_paidIf 83 = .ok (.iaload, 1) := by decide +kernel
theorem d_LE_paidIf_84 : decode b_LE_paidIf 84 = .ok (.istore 10, 2) := by decide +kernel
theorem d_LE_paidIf_86 : decode b_LE_paidIf 86 = .ok (.aload_n 0, 1) := by decide +kernel
theorem d_LE_paidIf_87 : decode b_LE_paidIf 87 = .ok (.getfield 9, 3) := by decide +kernel
theorem d_LE_paidIf_90 : decode b_LE_paidIf 90 = .ok (.iload 7, 2) := by decide +kernel
theorem d_LE_paidIf_92 : decode b_LE_paidIf 92 = .ok (.iaload, 1) := by decide +kernel
theorem d_LE_paidIf_93 : decode b_LE_paidIf 93 = .ok (.iload_n 1, 1) := by decide +kernel
theorem d_LE_paidIf_94 : decode b_LE_paidIf 94 = .ok (.if_icmp .ne 19, 3) := by decide +kernel
theorem d_LE_paidIf_97 : decode b_LE_paidIf 97 = .ok (.iload 6, 2) := by decide +kernel
theorem d_LE_paidIf_99 : decode b_LE_paidIf 99 = .ok (.iload_n 3, 1) := by decide +kernel
theorem d_LE_paidIf_100 : decode b_LE_paidIf 100 = .ok (.iload 9, 2) := by decide +kernel
theorem d_LE_paidIf_102 : decode b_LE_paidIf 102 = .ok (.iload 10, 2) := by decide +kernel
theorem d_LE_paidIf_104 : decode b_LE_paidIf 104 = .ok (.invokestatic 54, 3) := by decide +kernel
theorem d_LE_paidIf_107 : decode b_LE_paidIf 107 = .ok (.iadd, 1) := by decide +kernel
theorem d_LE_paidIf_108 : decode b_LE_paidIf 108 = .ok (.istore 6, 2) := by decide +kernel
theorem d_LE_paidIf_110 : decode b_LE_paidIf 110 = .ok (.goto 27, 3) := by decide +kernel
theorem d_LE_paidIf_113 : decode b_LE_paidIf 113 = .ok (.aload_n 0, 1) := by decide +kernel
theorem d_LE_paidIf_114 : decode b_LE_paidIf 114 = .ok (.getfield 15, 3) := by decide +kernel
theorem d_LE_paidIf_117 : decode b_LE_paidIf 117 = .ok (.iload 7, 2) := by decide +kernel
theorem d_LE_paidIf_119 : decode b_LE_paidIf 119 = .ok (.iaload, 1) := by decide +kernel
theorem d_LE_paidIf_120 : decode b_LE_paidIf 120 = .ok (.iload_n 1, 1) := by decide +kernel
theorem d_LE_paidIf_121 : decode b_LE_paidIf 121 = .ok (.if_icmp .ne 16, 3) := by decide +kernel
theorem d_LE_paidIf_124 : decode b_LE_paidIf 124 = .ok (.iload 6, 2) := by decide +kernel
theorem d_LE_paidIf_126 : decode b_LE_paidIf 126 = .ok (.iload_n 3, 1) := by decide +kernel
theorem d_LE_paidIf_127 : decode b_LE_paidIf 127 = .ok (.iload 10, 2) := by decide +kernel
theorem d_LE_paidIf_129 : decode b_LE_paidIf 129 = .ok (.iload 9, 2) := by decide +kernel
theorem d_LE_paidIf_131 : decode b_LE_paidIf 131 = .ok (.invokestatic 54, 3) := by decide +kernel
theorem d_LE_paidIf_134 : decode b_LE_paidIf 134 = .ok (.iadd, 1) := by decide +kernel
theorem d_LE_paidIf_135 : decode b_LE_paidIf 135 = .ok (.istore 6, 2) := by decide +kernel
theorem d_LE_paidIf_137 : decode b_LE_paidIf 137 = .ok (.iinc 7 1, 3) := by decide +kernel
theorem d_LE_paidIf_140 : decode b_LE_paidIf 140 = .ok (.goto (-134), 3) := by decide +kernel
theorem d_LE_paidIf_143 : decode b_LE_paidIf 143 = .ok (.iload 6, 2) := by decide +kernel
theorem d_LE_paidIf_145 : decode b_LE_paidIf 145 = .ok (.ireturn, 1) := by decide +kernel
theorem d_LE_owed_0 : decode b_LE_owed 0 = .ok (.iconst 0, 1) := by decide +kernel
theorem d_LE_owed_1 : decode b_LE_owed 1 = .ok (.istore 4, 2) := by decide +kernel
theorem d_LE_owed_3 : decode b_LE_owed 3 = .ok (.iconst 0, 1) := by decide +kernel
theorem d_LE_owed_4 : decode b_LE_owed 4 = .ok (.istore 5, 2) := by decide +kernel
theorem d_LE_owed_6 : decode b_LE_owed 6 = .ok (.iload 5, 2) := by decide +kernel
theorem d_LE_owed_8 : decode b_LE_owed 8 = .ok (.aload_n 0, 1) := by decide +kernel
theorem d_LE_owed_9 : decode b_LE_owed 9 = .ok (.getfield 33, 3) := by decide +kernel
theorem d_LE_owed_12 : decode b_LE_owed 12 = .ok (.if_icmp .ge 43, 3) := by decide +kernel
theorem d_LE_owed_15 : decode b_LE_owed 15 = .ok (.aload_n 0, 1) := by decide +kernel
theorem d_LE_owed_16 : decode b_LE_owed 16 = .ok (.getfield 15, 3) := by decide +kernel
theorem d_LE_owed_19 : decode b_LE_owed 19 = .ok (.iload 5, 2) := by decide +kernel
theorem d_LE_owed_21 : decode b_LE_owed 21 = .ok (.iaload, 1) := by decide +kernel
theorem d_LE_owed_22 : decode b_LE_owed 22 = .ok (.iload_n 1, 1) := by decide +kernel
theorem d_LE_owed_23 : decode b_LE_owed 23 = .ok (.if_icmp .ne 26, 3) := by decide +kernel
theorem d_LE_owed_26 : decode b_LE_owed 26 = .ok (.aload_n 0, 1) := by decide +kernel
theorem d_LE_owed_27 : decode b_LE_owed 27 = .ok (.getfield 9, 3) := by decide +kernel
theorem d_LE_owed_30 : decode b_LE_owed 30 = .ok (.iload 5, 2) := by decide +kernel
theorem d_LE_owed_32 : decode b_LE_owed 32 = .ok (.iaload, 1) := by decide +kernel
theorem d_LE_owed_33 : decode b_LE_owed 33 = .ok (.iload_n 2, 1) := by decide +kernel
theorem d_LE_owed_34 : decode b_LE_owed 34 = .ok (.if_icmp .ne 15, 3) := by decide +kernel
theorem d_LE_owed_37 : decode b_LE_owed 37 = .ok (.iload 4, 2) := by decide +kernel
theorem d_LE_owed_39 : decode b_LE_owed 39 = .ok (.aload_n 0, 1) := by decide +kernel
theorem d_LE_owed_40 : decode b_LE_owed 40 = .ok (.iload 5, 2) := by decide +kernel
theorem d_LE_owed_42 : decode b_LE_owed 42 = .ok (.iload_n 3, 1) := by decide +kernel
theorem d_LE_owed_43 : decode b_LE_owed 43 = .ok (.invokevirtual 58, 3) := by decide +kernel
theorem d_LE_owed_46 : decode b_LE_owed 46 = .ok (.iadd, 1) := by decide +kernel
theorem d_LE_owed_47 : decode b_LE_owed 47 = .ok (.istore 4, 2) := by decide +kernel
theorem d_LE_owed_49 : decode b_LE_owed 49 = .ok (.iinc 5 1, 3) := by decide +kernel
theorem d_LE_owed_52 : decode b_LE_owed 52 = .ok (.goto (-46), 3) := by decide +kernel
theorem d_LE_owed_55 : decode b_LE_owed 55 = .ok (.iload 4, 2) := by decide +kernel
theorem d_LE_owed_57 : decode b_LE_owed 57 = .ok (.ireturn, 1) := by decide +kernel
theorem d_LE_netOf_0 : decode b_LE_netOf 0 = .ok (.iconst 0, 1) := by decide +kernel
theorem d_LE_netOf_1 : decode b_LE_netOf 1 = .ok (.istore_n 3, 1) := by decide +kernel
theorem d_LE_netOf_2 : decode b_LE_netOf 2 = .ok (.iconst 0, 1) := by decide +kernel
theorem d_LE_netOf_3 : decode b_LE_netOf 3 = .ok (.istore 4, 2) := by decide +kernel
theorem d_LE_netOf_5 : decode b_LE_netOf 5 = .ok (.iload 4, 2) := by decide +kernel
theorem d_LE_netOf_7 : decode b_LE_netOf 7 = .ok (.aload_n 0, 1) := by decide +kernel
theorem d_LE_netOf_8 : decode b_LE_netOf 8 = .ok (.getfield 33, 3) := by decide +kernel
theorem d_LE_netOf_11 : decode b_LE_netOf 11 = .ok (.if_icmp .ge 54, 3) := by decide +kernel
theorem d_LE_netOf_14 : decode b_LE_netOf 14 = .ok (.aload_n 0, 1) := by decide +kernel
theorem d_LE_netOf_15 : decode b_LE_netOf 15 = .ok (.getfield 9, 3) := by decide +kernel
theorem d_LE_netOf_18 : decode b_LE_netOf 18 = .ok (.iload 4, 2) := by decide +kernel
theorem d_LE_netOf_20 : decode b_LE_netOf 20 = .ok (.iaload, 1) := by decide +kernel
theorem d_LE_netOf_21 : decode b_LE_netOf 21 = .ok (.iload_n 1, 1) := by decide +kernel
theorem d_LE_netOf_22 : decode b_LE_netOf 22 = .ok (.if_icmp .ne 16, 3) := by decide +kernel
theorem d_LE_netOf_25 : decode b_LE_netOf 25 = .ok (.iload_n 3, 1) := by decide +kernel
theorem d_LE_netOf_26 : decode b_LE_netOf 26 = .ok (.aload_n 0, 1) := by decide +kernel
theorem d_LE_netOf_27 : decode b_LE_netOf 27 = .ok (.iload 4, 2) := by decide +kernel
theorem d_LE_netOf_29 : decode b_LE_netOf 29 = .ok (.iload_n 2, 1) := by decide +kernel
theorem d_LE_netOf_30 : decode b_LE_netOf 30 = .ok (.invokevirtual 58, 3) := by decide +kernel
theorem d_LE_netOf_33 : decode b_LE_netOf 33 = .ok (.iadd, 1) := by decide +kernel
theorem d_LE_netOf_34 : decode b_LE_netOf 34 = .ok (.istore_n 3, 1) := by decide +kernel
theorem d_LE_netOf_35 : decode b_LE_netOf 35 = .ok (.goto 24, 3) := by decide +kernel
theorem d_LE_netOf_38 : decode b_LE_netOf 38 = .ok (.aload_n 0, 1) := by decide +kernel
theorem d_LE_netOf_39 : decode b_LE_netOf 39 = .ok (.getfield 15, 3) := by decide +kernel
theorem d_LE_netOf_42 : decode b_LE_netOf 42 = .ok (.iload 4, 2) := by decide +kernel
theorem d_LE_netOf_44 : decode b_LE_netOf 44 = .ok (.iaload, 1) := by decide +kernel
theorem d_LE_netOf_45 : decode b_LE_netOf 45 = .ok (.iload_n 1, 1) := by decide +kernel
theorem d_LE_netOf_46 : decode b_LE_netOf 46 = .ok (.if_icmp .ne 13, 3) := by decide +kernel
theorem d_LE_netOf_49 : decode b_LE_netOf 49 = .ok (.iload_n 3, 1) := by decide +kernel
theorem d_LE_netOf_50 : decode b_LE_netOf 50 = .ok (.aload_n 0, 1) := by decide +kernel
theorem d_LE_netOf_51 : decode b_LE_netOf 51 = .ok (.iload 4, 2) := by decide +kernel
theorem d_LE_netOf_53 : decode b_LE_netOf 53 = .ok (.iload_n 2, 1) := by decide +kernel
theorem d_LE_netOf_54 : decode b_LE_netOf 54 = .ok (.invokevirtual 58, 3) := by decide +kernel
theorem d_LE_netOf_57 : decode b_LE_netOf 57 = .ok (.isub, 1) := by decide +kernel
theorem d_LE_netOf_58 : decode b_LE_netOf 58 = .ok (.istore_n 3, 1) := by decide +kernel
theorem d_LE_netOf_59 : decode b_LE_netOf 59 = .ok (.iinc 4 1, 3) := by decide +kernel
theorem d_LE_netOf_62 : decode b_LE_netOf 62 = .ok (.goto (-57), 3) := by decide +kernel
theorem d_LE_netOf_65 : decode b_LE_netOf 65 = .ok (.iload_n 3, 1) := by decide +kernel
theorem d_LE_netOf_66 : decode b_LE_netOf 66 = .ok (.ireturn, 1) := by decide +kernel
theorem d_LE_owedFor_0 : decode b_LE_owedFor 0 = .ok (.aload_n 0, 1) := by decide +kernel
theorem d_LE_owedFor_1 : decode b_LE_owedFor 1 = .ok (.getfield 27, 3) := by decide +kernel
theorem d_LE_owedFor_4 : decode b_LE_owedFor 4 = .ok (.iload_n 1, 1) := by decide +kernel
theorem d_LE_owedFor_5 : decode b_LE_owedFor 5 = .ok (.iaload, 1) := by decide +kernel
theorem d_LE_owedFor_6 : decode b_LE_owedFor 6 = .ok (.istore_n 3, 1) := by decide +kernel
theorem d_LE_owedFor_7 : decode b_LE_owedFor 7 = .ok (.aload_n 0, 1) := by decide +kernel
theorem d_LE_owedFor_8 : decode b_LE_owedFor 8 = .ok (.iload_n 3, 1) := by decide +kernel
theorem d_LE_owedFor_9 : decode b_LE_owedFor 9 = .ok (.invokevirtual 37, 3) := by decide +kernel
theorem d_LE_owedFor_12 : decode b_LE_owedFor 12 = .ok (.ifCond .eq 17, 3) := by decide +kernel
theorem d_LE_owedFor_15 : decode b_LE_owedFor 15 = .ok (.aload_n 0, 1) := by decide +kernel
theorem d_LE_owedFor_16 : decode b_LE_owedFor 16 = .ok (.getfield 21, 3) := by decide +kernel
theorem d_LE_owedFor_19 : decode b_LE_owedFor 19 = .ok (.iload_n 3, 1) := by decide +kernel
theorem d_LE_owedFor_20 : decode b_LE_owedFor 20 = .ok (.iaload, 1) := by decide +kernel
theorem d_LE_owedFor_21 : decode b_LE_owedFor 21 = .ok (.iload_n 2, 1) := by decide +kernel
theorem d_LE_owedFor_22 : decode b_LE_owedFor 22 = .ok (.if_icmp .gt 7, 3) := by decide +kernel
theorem d_LE_owedFor_25 : decode b_LE_owedFor 25 = .ok (.iconst 1, 1) := by decide +kernel
theorem d_LE_owedFor_26 : decode b_LE_owedFor 26 = .ok (.goto 4, 3) := by decide +kernel
theorem d_LE_owedFor_29 : decode b_LE_owedFor 29 = .ok (.iconst 0, 1) := by decide +kernel
theorem d_LE_owedFor_30 : decode b_LE_owedFor 30 = .ok (.istore 4, 2) := by decide +kernel
theorem d_LE_owedFor_32 : decode b_LE_owedFor 32 = .ok (.aload_n 0, 1) := by decide +kernel
theorem d_LE_owedFor_33 : decode b_LE_owedFor 33 = .ok (.getfield 21, 3) := by decide +kernel
theorem d_LE_owedFor_36 : decode b_LE_owedFor 36 = .ok (.iload_n 1, 1) := by decide +kernel
theorem d_LE_owedFor_37 : decode b_LE_owedFor 37 = .ok (.iaload, 1) := by decide +kernel
theorem d_LE_owedFor_38 : decode b_LE_owedFor 38 = .ok (.iload_n 2, 1) := by decide +kernel
theorem d_LE_owedFor_39 : decode b_LE_owedFor 39 = .ok (.if_icmp .gt 8, 3) := by decide +kernel
theorem d_LE_owedFor_42 : decode b_LE_owedFor 42 = .ok (.iload 4, 2) := by decide +kernel
theorem d_LE_owedFor_44 : decode b_LE_owedFor 44 = .ok (.ifCond .eq 7, 3) := by decide +kernel
theorem d_LE_owedFor_47 : decode b_LE_owedFor 47 = .ok (.iconst 0, 1) := by decide +kernel
theorem d_LE_owedFor_48 : decode b_LE_owedFor 48 = .ok (.goto 18, 3) := by decide +kernel
theorem d_LE_owedFor_51 : decode b_LE_owedFor 51 = .ok (.iload_n 2, 1) := by decide +kernel
theorem d_LE_owedFor_52 : decode b_LE_owedFor 52 = .ok (.aload_n 0, 1) := by decide +kernel
theorem d_LE_owedFor_53 : decode b_LE_owedFor 53 = .ok (.getfield 21, 3) := by decide +kernel
theorem d_LE_owedFor_56 : decode b_LE_owedFor 56 = .ok (.iload_n 1, 1) := by decide +kernel
theorem d_LE_owedFor_57 : decode b_LE_owedFor 57 = .ok (.iaload, 1) := by decide +kernel
theorem d_LE_owedFor_58 : decode b_LE_owedFor 58 = .ok (.isub, 1) := by decide +kernel
theorem d_LE_owedFor_59 : decode b_LE_owedFor 59 = .ok (.aload_n 0, 1) := by decide +kernel
theorem d_LE_owedFor_60 : decode b_LE_owedFor 60 = .ok (.getfield 24, 3) := by decide +kernel
theorem d_LE_owedFor_63 : decode b_LE_owedFor 63 = .ok (.iload_n 1, 1) := by decide +kernel
theorem d_LE_owedFor_64 : decode b_LE_owedFor 64 = .ok (.iaload, 1) := by decide +kernel
theorem d_LE_owedFor_65 : decode b_LE_owedFor 65 = .ok (.imul, 1) := by decide +kernel
theorem d_LE_owedFor_66 : decode b_LE_owedFor 66 = .ok (.ireturn, 1) := by decide +kernel
theorem d_MI_init_0 : decode b_MI_init 0 = .ok (.aload_n 0, 1) := by decide +kernel
theorem d_MI_init_1 : decode b_MI_init 1 = .ok (.iload_n 1, 1) := by decide +kernel
theorem d_MI_init_2 : decode b_MI_init 2 = .ok (.iload_n 2, 1) := by decide +kernel
theorem d_MI_init_3 : decode b_MI_init 3 = .ok (.invokespecial 3, 3) := by decide +kernel
theorem d_MI_init_6 : decode b_MI_init 6 = .ok (.return_, 1) := by decide +kernel
theorem d_MI_kind_0 : decode b_MI_kind 0 = .ok (.iconst 1, 1) := by decide +kernel
theorem d_MI_kind_1 : decode b_MI_kind 1 = .ok (.ireturn, 1) := by decide +kernel
theorem d_MI_shows_0 : decode b_MI_shows 0 = .ok (.iload_n 1, 1) := by decide +kernel
theorem d_MI_shows_1 : decode b_MI_shows 1 = .ok (.iconst 3, 1) := by decide +kernel
theorem d_MI_shows_2 : decode b_MI_shows 2 = .ok (.iadd, 1) := by decide +kernel
theorem d_MI_shows_3 : decode b_MI_shows 3 = .ok (.ireturn, 1) := by decide +kernel
theorem d_MI_telling_0 : decode b_MI_telling 0 = .ok (.aload_n 1, 1) := by decide +kernel
theorem d_MI_telling_1 : decode b_MI_telling 1 = .ok (.iconst 2, 1) := by decide +kernel
theorem d_MI_telling_2 : decode b_MI_telling 2 = .ok (.invokevirtual 9, 3) := by decide +kernel
theorem d_MI_telling_5 : decode b_MI_telling 5 = .ok (.aload_n 0, 1) := by decide +kernel
theorem d_MI_telling_6 : decode b_MI_telling 6 = .ok (.aload_n 1, 1) := by decide +kernel
theorem d_MI_telling_7 : decode b_MI_telling 7 = .ok (.invokespecial 15, 3) := by decide +kernel
theorem d_MI_telling_10 : decode b_MI_telling 10 = .ok (.bipush 100, 2) := by decide +kernel
theorem d_MI_telling_12 : decode b_MI_telling 12 = .ok (.iadd, 1) := by decide +kernel
theorem d_MI_telling_13 : decode b_MI_telling 13 = .ok (.ireturn, 1) := by decide +kernel
theorem d_PA_init_0 : decode b_PA_init 0 = .ok (.aload_n 0, 1) := by decide +kernel
theorem d_PA_init_1 : decode b_PA_init 1 = .ok (.invokespecial 3, 3) := by decide +kernel
theorem d_PA_init_4 : decode b_PA_init 4 = .ok (.aload_n 0, 1) := by decide +kernel
theorem d_PA_init_5 : decode b_PA_init 5 = .ok (.bipush 6, 2) := by decide +kernel
theorem d_PA_init_7 : decode b_PA_init 7 = .ok (.bipush 100, 2) := by decide +kernel
theorem d_PA_init_9 : decode b_PA_init 9 = .ok (.multianewarray 9 2, 4) := by decide +kernel
theorem d_PA_init_13 : decode b_PA_init 13 = .ok (.putfield 11, 3) := by decide +kernel
theorem d_PA_init_16 : decode b_PA_init 16 = .ok (.aload_n 0, 1) := by decide +kernel
theorem d_PA_init_17 : decode b_PA_init 17 = .ok (.iconst 2, 1) := by decide +kernel
theorem d_PA_init_18 : decode b_PA_init 18 = .ok (.bipush 100, 2) := by decide +kernel
theorem d_PA_init_20 : decode b_PA_init 20 = .ok (.multianewarray 9 2, 4) := by decide +kernel
theorem d_PA_init_24 : decode b_PA_init 24 = .ok (.putfield 16, 3) := by decide +kernel
theorem d_PA_init_27 : decode b_PA_init 27 = .ok (.aload_n 0, 1) := by decide +kernel
theorem d_PA_init_28 : decode b_PA_init 28 = .ok (.bipush 100, 2) := by decide +kernel
theorem d_PA_init_30 : decode b_PA_init 30 = .ok (.newarray .int, 2) := by decide +kernel
theorem d_PA_init_32 : decode b_PA_init 32 = .ok (.putfield 19, 3) := by decide +kernel
theorem d_PA_init_35 : decode b_PA_init 35 = .ok (.aload_n 0, 1) := by decide +kernel
theorem d_PA_init_36 : decode b_PA_init 36 = .ok (.bipush 6, 2) := by decide +kernel
theorem d_PA_init_38 : decode b_PA_init 38 = .ok (.newarray .int, 2) := by decide +kernel
theorem d_PA_init_40 : decode b_PA_init 40 = .ok (.putfield 23, 3) := by decide +kernel
theorem d_PA_init_43 : decode b_PA_init 43 = .ok (.return_, 1) := by decide +kernel
theorem d_PA_part_0 : decode b_PA_part 0 = .ok (.iload 5, 2) := by decide +kernel
theorem d_PA_part_2 : decode b_PA_part 2 = .ok (.iconst 1, 1) := by decide +kernel
theorem d_PA_part_3 : decode b_PA_part 3 = .ok (.isub, 1) := by decide +kernel
theorem d_PA_part_4 : decode b_PA_part 4 = .ok (.istore 7, 2) := by decide +kernel
theorem d_PA_part_6 : decode b_PA_part 6 = .ok (.iload 7, 2) := by decide +kernel
theorem d_PA_part_8 : decode b_PA_part 8 = .ok (.ifCond .lt 102, 3) := by decide +kernel
theorem d_PA_part_11 : decode b_PA_part 11 = .ok (.iconst 1, 1) := by decide +kernel
theorem d_PA_part_12 : decode b_PA_part 12 = .ok (.istore 8, 2) := by decide +kernel
theorem d_PA_part_14 : decode b_PA_part 14 = .ok (.iload 8, 2) := by decide +kernel
theorem d_PA_part_16 : decode b_PA_part 16 = .ok (.iload_n 2, 1) := by decide +kernel
theorem d_PA_part_17 : decode b_PA_part 17 = .ok (.if_icmp .gt 34, 3) := by decide +kernel
theorem d_PA_part_20 : decode b_PA_part 20 = .ok (.aload_n 0, 1) := by decide +kernel
theorem d_PA_part_21 : decode b_PA_part 21 = .ok (.getfield 19, 3) := by decide +kernel
theorem d_PA_part_24 : decode b_PA_part 24 = .ok (.iload 8, 2) := by decide +kernel
theorem d_PA_part_26 : decode b_PA_part 26 = .ok (.iload 6, 2) := by decide +kernel
theorem d_PA_part_28 : decode b_PA_part 28 = .ok (.aload_n 1, 1) := by decide +kernel
theorem d_PA_part_29 : decode b_PA_part 29 = .ok (.iload 8, 2) := by decide +kernel
theorem d_PA_part_31 : decode b_PA_part 31 = .ok (.invokevirtual 26, 3) := by decide +kernel
theorem d_PA_part_34 : decode b_PA_part 34 = .ok (.aload_n 3, 1) := by decide +kernel
theorem d_PA_part_35 : decode b_PA_part 35 = .ok (.iload 4, 2) := by decide +kernel
theorem d_PA_part_37 : decode b_PA_part 37 = .ok (.iload 7, 2) := by decide +kernel
theorem d_PA_part_39 : decode b_PA_part 39 = .ok (.iadd, 1) := by decide +kernel
theorem d_PA_part_40 : decode b_PA_part 40 = .ok (.iaload, 1) := by decide +kernel
theorem d_PA_part_41 : decode b_PA_part 41 = .ok (.invokestatic 32, 3) := by decide +kernel
theorem d_PA_part_44 : decode b_PA_part 44 = .ok (.iastore, 1) := by decide +kernel
theorem d_PA_part_45 : decode b_PA_part 45 = .ok (.iinc 8 1, 3) := by decide +kernel
theorem d_PA_part_48 : decode b_PA_part 48 = .ok (.goto (-34), 3) := by decide +kernel
theorem d_PA_part_51 : decode b_PA_part 51 = .ok (.iload 5, 2) := by decide +kernel
theorem d_PA_part_53 : decode b_PA_part 53 = .ok (.iconst 1, 1) := by decide +kernel
theorem d_PA_part_54 : decode b_PA_part 54 = .ok (.isub, 1) := by decide +kernel
theorem d_PA_part_55 : decode b_PA_part 55 = .ok (.iload 7, 2) := by decide +kernel
theorem d_PA_part_57 : decode b_PA_part 57 = .ok (.isub, 1) := by decide +kernel
theorem d_PA_part_58 : decode b_PA_part 58 = .ok (.istore 8, 2) := by decide +kernel
theorem d_PA_part_60 : decode b_PA_part 60 = .ok (.iload 7, 2) := by decide +kernel
theorem d_PA_part_62 : decode b_PA_part 62 = .ok (.ifCond .ne 7, 3) := by decide +kernel
theorem d_PA_part_65 : decode b_PA_part 65 = .ok (.iload_n 2, 1) := by decide +kernel
theorem d_PA_part_66 : decode b_PA_part 66 = .ok (.goto 7, 3) := by decide +kernel
theorem d_PA_part_69 : decode b_PA_part 69 = .ok (.iload 8, 2) := by decide +kernel
theorem d_PA_part_71 : decode b_PA_part 71 = .ok (.iconst 1, 1) := by decide +kernel
theorem d_PA_part_72 : decode b_PA_part 72 = .ok (.iadd, 1) := by decide +kernel
theorem d_PA_part_73 : decode b_PA_part 73 = .ok (.istore 9, 2) := by decide +kernel
theorem d_PA_part_75 : decode b_PA_part 75 = .ok (.iload 9, 2) := by decide +kernel
theorem d_PA_part_77 : decode b_PA_part 77 = .ok (.istore 10, 2) := by decide +kernel
theorem d_PA_part_79 : decode b_PA_part 79 = .ok (.iload 10, 2) := by decide +kernel
theorem d_PA_part_81 : decode b_PA_part 81 = .ok (.iload_n 2, 1) := by decide +kernel
theorem d_PA_part_82 : decode b_PA_part 82 = .ok (.iload 7, 2) := by decide +kernel
theorem d_PA_part_84 : decode b_PA_part 84 = .ok (.isub, 1) := by decide +kernel
theorem d_PA_part_85 : decode b_PA_part 85 = .ok (.if_icmp .gt 19, 3) := by decide +kernel
theorem d_PA_part_88 : decode b_PA_part 88 = .ok (.aload_n 0, 1) := by decide +kernel
theorem d_PA_part_89 : decode b_PA_part 89 = .ok (.iload 7, 2) := by decide +kernel
theorem d_PA_part_91 : decode b_PA_part 91 = .ok (.iload 10, 2) := by decide +kernel
theorem d_PA_part_93 : decode b_PA_part 93 = .ok (.iload 8, 2) := by decide +kernel
theorem d_PA_part_95 : decode b_PA_part 95 = .ok (.invokevirtual 36, 3) := by decide +kernel
theorem d_PA_part_98 : decode b_PA_part 98 = .ok (.iinc 10 1, 3) := by decide +kernel
theorem d_PA_part_101 : decode b_PA_part 101 = .ok (.goto (-22), 3) := by decide +kernel
theorem d_PA_part_104 : decode b_PA_part 104 = .ok (.iinc 7 (-1), 3) := by decide +kernel
theorem d_PA_part_107 : decode b_PA_part 107 = .ok (.goto (-101), 3) := by decide +kernel
theorem d_PA_part_110 : decode b_PA_part 110 = .ok (.aload_n 0, 1) := by decide +kernel
theorem d_PA_part_111 : decode b_PA_part 111 = .ok (.aload_n 0, 1) := by decide +kernel
theorem d_PA_part_112 : decode b_PA_part 112 = .ok (.getfield 16, 3) := by decide +kernel
theorem d_PA_part_115 : decode b_PA_part 115 = .ok (.iconst 0, 1) := by decide +kernel
theorem d_PA_part_116 : decode b_PA_part 116 = .ok (.aaload, 1) := by decide +kernel
theorem d_PA_part_117 : decode b_PA_part 117 = .ok (.iload_n 2, 1) := by decide +kernel
theorem d_PA_part_118 : decode b_PA_part 118 = .ok (.iaload, 1) := by decide +kernel
theorem d_PA_part_119 : decode b_PA_part 119 = .ok (.putfield 40, 3) := by decide +kernel
theorem d_PA_part_122 : decode b_PA_part 122 = .ok (.iload_n 2, 1) := by decide +kernel
theorem d_PA_part_123 : decode b_PA_part 123 = .ok (.istore 7, 2) := by decide +kernel
theorem d_PA_part_125 : decode b_PA_part 125 = .ok (.iconst 0, 1) := by decide +kernel
theorem d_PA_part_126 : decode b_PA_part 126 = .ok (.istore 8, 2) := by decide +kernel
theorem d_PA_part_128 : decode b_PA_part 128 = .ok (.iload 8, 2) := by decide +kernel
theorem d_PA_part_130 : decode b_PA_part 130 = .ok (.iload 5, 2) := by decide +kernel
theorem d_PA_part_132 : decode b_PA_part 132 = .ok (.if_icmp .ge 38, 3) := by decide +kernel
theorem d_PA_part_135 : decode b_PA_part 135 = .ok (.aload_n 0, 1) := by decide +kernel
theorem d_PA_part_136 : decode b_PA_part 136 = .ok (.getfield 23, 3) := by decide +kernel
theorem d_PA_part_139 : decode b_PA_part 139 = .ok (.iload 8, 2) := by decide +kernel
theorem d_PA_part_141 : decode b_PA_part 141 = .ok (.aload_n 0, 1) := by decide +kernel
theorem d_PA_part_142 : decode b_PA_part 142 = .ok (.getfield 11, 3) := by decide +kernel
theorem d_PA_part_145 : decode b_PA_part 145 = .ok (.iload 8, 2) := by decide +kernel
theorem d_PA_part_147 : decode b_PA_part 147 = .ok (.aaload, 1) := by decide +kernel
theorem d_PA_part_148 : decode b_PA_part 148 = .ok (.iload 7, 2) := by decide +kernel
theorem d_PA_part_150 : decode b_PA_part 150 = .ok (.iaload, 1) := by decide +kernel
theorem d_PA_part_151 : decode b_PA_part 151 = .ok (.iastore, 1) := by decide +kernel
theorem d_PA_part_152 : decode b_PA_part 152 = .ok (.iload 7, 2) := by decide +kernel
theorem d_PA_part_154 : decode b_PA_part 154 = .ok (.aload_n 0, 1) := by decide +kernel
theorem d_PA_part_155 : decode b_PA_part 155 = .ok (.getfield 23, 3) := by decide +kernel
theorem d_PA_part_158 : decode b_PA_part 158 = .ok (.iload 8, 2) := by decide +kernel
theorem d_PA_part_160 : decode b_PA_part 160 = .ok (.iaload, 1) := by decide +kernel
theorem d_PA_part_161 : decode b_PA_part 161 = .ok (.isub, 1) := by decide +kernel
theorem d_PA_part_162 : decode b_PA_part 162 = .ok (.istore 7, 2) := by decide +kernel
theorem d_PA_part_164 : decode b_PA_part 164 = .ok (.iinc 8 1, 3) := by decide +kernel
theorem d_PA_part_167 : decode b_PA_part 167 = .ok (.goto (-39), 3) := by decide +kernel
theorem d_PA_part_170 : decode b_PA_part 170 = .ok (.return_, 1) := by decide +kernel
theorem d_PA_choose_0 : decode b_PA_choose 0 = .ok (.iload_n 3, 1) := by decide +kernel
theorem d_PA_choose_1 : decode b_PA_choose 1 = .ok (.ifCond .ne 7, 3) := by decide +kernel
theorem d_PA_choose_4 : decode b_PA_choose 4 = .ok (.iload_n 2, 1) := by decide +kernel
theorem d_PA_choose_5 : decode b_PA_choose 5 = .ok (.goto 4, 3) := by decide +kernel
theorem d_PA_choose_8 : decode b_PA_choose 8 = .ok (.iconst 1, 1) := by decide +kernel
theorem d_PA_choose_9 : decode b_PA_choose 9 = .ok (.istore 4, 2) := by decide +kernel
theorem d_PA_choose_11 : decode b_PA_choose 11 = .ok (.aload_n 0, 1) := by decide +kernel
theorem d_PA_choose_12 : decode b_PA_choose 12 = .ok (.iload_n 1, 1) := by decide +kernel
theorem d_PA_choose_13 : decode b_PA_choose 13 = .ok (.iload 4, 2) := by decide +kernel
theorem d_PA_choose_15 : decode b_PA_choose 15 = .ok (.iload_n 2, 1) := by decide +kernel
theorem d_PA_choose_16 : decode b_PA_choose 16 = .ok (.iload_n 3, 1) := by decide +kernel
theorem d_PA_choose_17 : decode b_PA_choose 17 = .ok (.invokevirtual 44, 3) := by decide +kernel
theorem d_PA_choose_20 : decode b_PA_choose 20 = .ok (.istore 5, 2) := by decide +kernel
theorem d_PA_choose_22 : decode b_PA_choose 22 = .ok (.iload 4, 2) := by decide +kernel
theorem d_PA_choose_24 : decode b_PA_choose 24 = .ok (.iconst 1, 1) := by decide +kernel
theorem d_PA_choose_25 : decode b_PA_choose 25 = .ok (.iadd, 1) := by decide +kernel
theorem d_PA_choose_26 : decode b_PA_choose 26 = .ok (.istore 6, 2) := by decide +kernel
theorem d_PA_choose_28 : decode b_PA_choose 28 = .ok (.iload 6, 2) := by decide +kernel
theorem d_PA_choose_30 : decode b_PA_choose 30 = .ok (.iload_n 2, 1) := by decide +kernel
theorem d_PA_choose_31 : decode b_PA_choose 31 = .ok (.iload_n 3, 1) := by decide +kernel
theorem d_PA_choose_32 : decode b_PA_choose 32 = .ok (.isub, 1) := by decide +kernel
theorem d_PA_choose_33 : decode b_PA_choose 33 = .ok (.if_icmp .gt 35, 3) := by decide +kernel
theorem d_PA_choose_36 : decode b_PA_choose 36 = .ok (.aload_n 0, 1) := by decide +kernel
theorem d_PA_choose_37 : decode b_PA_choose 37 = .ok (.iload_n 1, 1) := by decide +kernel
theorem d_PA_choose_38 : decode b_PA_choose 38 = .ok (.iload 6, 2) := by decide +kernel
theorem d_PA_choose_40 : decode b_PA_choose 40 = .ok (.iload_n 2, 1) := by decide +kernel
theorem d_PA_choose_41 : decode b_PA_choose 41 = .ok (.iload_n 3, 1) := by decide +kernel
theorem d_PA_choose_42 : decode b_PA_choose 42 = .ok (.invokevirtual 44, 3) := by decide +kernel
theorem d_PA_choose_45 : decode b_PA_choose 45 = .ok (.istore 7, 2) := by decide +kernel
theorem d_PA_choose_47 : decode b_PA_choose 47 = .ok (.iload 7, 2) := by decide +kernel
theorem d_PA_choose_49 : decode b_PA_choose 49 = .ok (.iload 5, 2) := by decide +kernel
theorem d_PA_choose_51 : decode b_PA_choose 51 = .ok (.if_icmp .ge 11, 3) := by decide +kernel
theorem d_PA_choose_54 : decode b_PA_choose 54 = .ok (.iload 7, 2) := by decide +kernel
theorem d_PA_choose_56 : decode b_PA_choose 56 = .ok (.istore 5, 2) := by decide +kernel
theorem d_PA_choose_58 : decode b_PA_choose 58 = .ok (.iload 6, 2) := by decide +kernel
theorem d_PA_choose_60 : decode b_PA_choose 60 = .ok (.istore 4, 2) := by decide +kernel
theorem d_PA_choose_62 : decode b_PA_choose 62 = .ok (.iinc 6 1, 3) := by decide +kernel
theorem d_PA_choose_65 : decode b_PA_choose 65 = .ok (.goto (-37), 3) := by decide +kernel
theorem d_PA_choose_68 : decode b_PA_choose 68 = .ok (.aload_n 0, 1) := by decide +kernel
theorem d_PA_choose_69 : decode b_PA_choose 69 = .ok (.getfield 11, 3) := by decide +kernel
theorem d_PA_choose_72 : decode b_PA_choose 72 = .ok (.iload_n 1, 1) := by decide +kernel
theorem d_PA_choose_73 : decode b_PA_choose 73 = .ok (.aaload, 1) := by decide +kernel
theorem d_PA_choose_74 : decode b_PA_choose 74 = .ok (.iload_n 2, 1) := by decide +kernel
theorem d_PA_choose_75 : decode b_PA_choose 75 = .ok (.iload 4, 2) := by decide +kernel
theorem d_PA_choose_77 : decode b_PA_choose 77 = .ok (.iastore, 1) := by decide +kernel
theorem d_PA_choose_78 : decode b_PA_choose 78 = .ok (.aload_n 0, 1) := by decide +kernel
theorem d_PA_choose_79 : decode b_PA_choose 79 = .ok (.getfield 16, 3) := by decide +kernel
theorem d_PA_choose_82 : decode b_PA_choose 82 = .ok (.iload_n 1, 1) := by decide +kernel
theorem d_PA_choose_83 : decode b_PA_choose 83 = .ok (.iconst 1, 1) := by decide +kernel
theorem d_PA_choose_84 : decode b_PA_choose 84 = .ok (.iand, 1) := by decide +kernel
theorem d_PA_choose_85 : decode b_PA_choose 85 = .ok (.aaload, 1) := by decide +kernel
theorem d_PA_choose_86 : decode b_PA_choose 86 = .ok (.iload_n 2, 1) := by decide +kernel
theorem d_PA_choose_87 : decode b_PA_choose 87 = .ok (.iload 5, 2) := by decide +kernel
theorem d_PA_choose_89 : decode b_PA_choose 89 = .ok (.iastore, 1) := by decide +kernel
theorem d_PA_choose_90 : decode b_PA_choose 90 = .ok (.return_, 1) := by decide +kernel
theorem d_PA_costOf_0 : decode b_PA_costOf 0 = .ok (.iload 4, 2) := by decide +kernel
theorem d_PA_costOf_2 : decode b_PA_costOf 2 = .ok (.ifCond .ne 12, 3) := by decide +kernel
theorem d_PA_costOf_5 : decode b_PA_costOf 5 = .ok (.aload_n 0, 1) := by decide +kernel
theorem d_PA_costOf_6 : decode b_PA_costOf 6 = .ok (.getfield 19, 3) := by decide +kernel
theorem d_PA_costOf_9 : decode b_PA_costOf 9 = .ok (.iload_n 2, 1) := by decide +kernel
theorem d_PA_costOf_10 : decode b_PA_costOf 10 = .ok (.iaload, 1) := by decide +kernel
theorem d_PA_costOf_11 : decode b_PA_costOf 11 = .ok (.goto 24, 3) := by decide +kernel
theorem d_PA_costOf_14 : decode b_PA_costOf 14 = .ok (.aload_n 0, 1) := by decide +kernel
theorem d_PA_costOf_15 : decode b_PA_costOf 15 = .ok (.getfield 19, 3) := by decide +kernel
theorem d_PA_costOf_18 : decode b_PA_costOf 18 = .ok (.iload_n 2, 1) := by decide +kernel
theorem d_PA_costOf_19 : decode b_PA_costOf 19 = .ok (.iaload, 1) := by decide +kernel
theorem d_PA_costOf_20 : decode b_PA_costOf 20 = .ok (.aload_n 0, 1) := by decide +kernel
theorem d_PA_costOf_21 : decode b_PA_costOf 21 = .ok (.getfield 16, 3) := by decide +kernel
theorem d_PA_costOf_24 : decode b_PA_costOf 24 = .ok (.iload_n 1, 1) := by decide +kernel
theorem d_PA_costOf_25 : decode b_PA_costOf 25 = .ok (.iconst 1, 1) := by decide +kernel
theorem d_PA_costOf_26 : decode b_PA_costOf 26 = .ok (.iadd, 1) := by decide +kernel
theorem d_PA_costOf_27 : decode b_PA_costOf 27 = .ok (.iconst 1, 1) := by decide +kernel
theorem d_PA_costOf_28 : decode b_PA_costOf 28 = .ok (.iand, 1) := by decide +kernel
theorem d_PA_costOf_29 : decode b_PA_costOf 29 = .ok (.aaload, 1) := by decide +kernel
theorem d_PA_costOf_30 : decode b_PA_costOf 30 = .ok (.iload_n 3, 1) := by decide +kernel
theorem d_PA_costOf_31 : decode b_PA_costOf 31 = .ok (.iload_n 2, 1) := by decide +kernel
theorem d_PA_costOf_32 : decode b_PA_costOf 32 = .ok (.isub, 1) := by decide +kernel
theorem d_PA_costOf_33 : decode b_PA_costOf 33 = .ok (.iaload, 1) := by decide +kernel
theorem d_PA_costOf_34 : decode b_PA_costOf 34 = .ok (.iadd, 1) := by decide +kernel
theorem d_PA_costOf_35 : decode b_PA_costOf 35 = .ok (.ireturn, 1) := by decide +kernel
theorem d_RW_init_0 : decode b_RW_init 0 = .ok (.aload_n 0, 1) := by decide +kernel
theorem d_RW_init_1 : decode b_RW_init 1 = .ok (.invokespecial 3, 3) := by decide +kernel
theorem d_RW_init_4 : decode b_RW_init 4 = .ok (.aload_n 0, 1) := by decide +kernel
theorem d_RW_init_5 : decode b_RW_init 5 = .ok (.bipush 40, 2) := by decide +kernel
theorem d_RW_init_7 : decode b_RW_init 7 = .ok (.newarray .int, 2) := by decide +kernel
theorem d_RW_init_9 : decode b_RW_init 9 = .ok (.putfield 9, 3) := by decide +kernel
theorem d_RW_init_12 : decode b_RW_init 12 = .ok (.aload_n 0, 1) := by decide +kernel
theorem d_RW_init_13 : decode b_RW_init 13 = .ok (.iconst (-1), 1) := by decide +kernel
theorem d_RW_init_14 : decode b_RW_init 14 = .ok (.putfield 15, 3) := by decide +kernel
theorem d_RW_init_17 : decode b_RW_init 17 = .ok (.return_, 1) := by decide +kernel
theorem d_RW_isNothing_0 : decode b_RW_isNothing 0 = .ok (.aload_n 0, 1) := by decide +kernel
theorem d_RW_isNothing_1 : decode b_RW_isNothing 1 = .ok (.getfield 15, 3) := by decide +kernel
theorem d_RW_isNothing_4 : decode b_RW_isNothing 4 = .ok (.iconst (-1), 1) := by decide +kernel
theorem d_RW_isNothing_5 : decode b_RW_isNothing 5 = .ok (.if_icmp .ne 7, 3) := by decide +kernel
theorem d_RW_isNothing_8 : decode b_RW_isNothing 8 = .ok (.iconst 1, 1) := by decide +kernel
theorem d_RW_isNothing_9 : decode b_RW_isNothing 9 = .ok (.goto 4, 3) := by decide +kernel
theorem d_RW_isNothing_12 : decode b_RW_isNothing 12 = .ok (.iconst 0, 1) := by decide +kernel
theorem d_RW_isNothing_13 : decode b_RW_isNothing 13 = .ok (.ireturn, 1) := by decide +kernel
theorem d_RW_begin_0 : decode b_RW_begin 0 = .ok (.aload_n 0, 1) := by decide +kernel
theorem d_RW_begin_1 : decode b_RW_begin 1 = .ok (.iload_n 1, 1) := by decide +kernel
theorem d_RW_begin_2 : decode b_RW_begin 2 = .ok (.putfield 15, 3) := by decide +kernel
theorem d_RW_begin_5 : decode b_RW_begin 5 = .ok (.aload_n 0, 1) := by decide +kernel
theorem d_RW_begin_6 : decode b_RW_begin 6 = .ok (.iload_n 2, 1) := by decide +kernel
theorem d_RW_begin_7 : decode b_RW_begin 7 = .ok (.putfield 19, 3) := by decide +kernel
theorem d_RW_begin_10 : decode b_RW_begin 10 = .ok (.iconst 0, 1) := by decide +kernel
theorem d_RW_begin_11 : decode b_RW_begin 11 = .ok (.istore_n 3, 1) := by decide +kernel
theorem d_RW_begin_12 : decode b_RW_begin 12 = .ok (.iload_n 3, 1) := by decide +kernel
theorem d_RW_begin_13 : decode b_RW_begin 13 = .ok (.bipush 40, 2) := by decide +kernel
theorem d_RW_begin_15 : decode b_RW_begin 15 = .ok (.if_icmp .ge 16, 3) := by decide +kernel
theorem d_RW_begin_18 : decode b_RW_begin 18 = .ok (.aload_n 0, 1) := by decide +kernel
theorem d_RW_begin_19 : decode b_RW_begin 19 = .ok (.getfield 9, 3) := by decide +kernel
theorem d_RW_begin_22 : decode b_RW_begin 22 = .ok (.iload_n 3, 1) := by decide +kernel
theorem d_RW_begin_23 : decode b_RW_begin 23 = .ok (.iconst 0, 1) := by decide +kernel
theorem d_RW_begin_24 : decode b_RW_begin 24 = .ok (.iastore, 1) := by decide +kernel
theorem d_RW_begin_25 : decode b_RW_begin 25 = .ok (.iinc 3 1, 3) := by decide +kernel
theorem d_RW_begin_28 : decode b_RW_begin 28 = .ok (.goto (-16), 3) := by decide +kernel
theorem d_RW_begin_31 : decode b_RW_begin 31 = .ok (.return_, 1) := by decide +kernel
theorem d_RW_cut_0 : decode b_RW_cut 0 = .ok (.aload_n 0, 1) := by decide +kernel
theorem d_RW_cut_1 : decode b_RW_cut 1 = .ok (.getfield 15, 3) := by decide +kernel
theorem d_RW_cut_4 : decode b_RW_cut 4 = .ok (.lookupswitch 34 #[(0, 28), (1, 31)], 28) := by decide +kernel
theorem d_RW_cut_32 : decode b_RW_cut 32 = .ok (.iload_n 1, 1) := by decide +kernel
theorem d_RW_cut_33 : decode b_RW_cut 33 = .ok (.i2b, 1) := by decide +kernel
theorem d_RW_cut_34 : decode b_RW_cut 34 = .ok (.ireturn, 1) := by decide +kernel
theorem d_RW_cut_35 : decode b_RW_cut 35 = .ok (.iload_n 1, 1) := by decide +kernel
theorem d_RW_cut_36 : decode b_RW_cut 36 = .ok (.i2s, 1) := by decide +kernel
theorem d_RW_cut_37 : decode b_RW_cut 37 = .ok (.ireturn, 1) := by decide +kernel
theorem d_RW_cut_38 : decode b_RW_cut 38 = .ok (.iload_n 1, 1) := by decide +kernel
theorem d_RW_cut_39 : decode b_RW_cut 39 = .ok (.ireturn, 1) := by decide +kernel
theorem d_RW_hasCells_0 : decode b_RW_hasCells 0 = .ok (.iload_n 1, 1) := by decide +kernel
theorem d_RW_hasCells_1 : decode b_RW_hasCells 1 = .ok (.ifCond .lt 29, 3) := by decide +kernel
theorem d_RW_hasCells_4 : decode b_RW_hasCells 4 = .ok (.iload_n 1, 1) := by decide +kernel
theorem d_RW_hasCells_5 : decode b_RW_hasCells 5 = .ok (.aload_n 0, 1) := by decide +kernel
theorem d_RW_hasCells_6 : decode b_RW_hasCells 6 = .ok (.getfield 19, 3) := by decide +kernel
theorem d_RW_hasCells_9 : decode b_RW_hasCells 9 = .ok (.if_icmp .gt 21, 3) := by decide +kernel
theorem d_RW_hasCells_12 : decode b_RW_hasCells 12 = .ok (.iload_n 2, 1) := by decide +kernel
theorem d_RW_hasCells_13 : decode b_RW_hasCells 13 = .ok (.ifCond .lt 17, 3) := by decide +kernel
theorem d_RW_hasCells_16 : decode b_RW_hasCells 16 = .ok (.iload_n 2, 1) := by decide +kernel
theorem d_RW_hasCells_17 : decode b_RW_hasCells 17 = .ok (.aload_n 0, 1) := by decide +kernel
theorem d_RW_hasCells_18 : decode b_RW_hasCells 18 = .ok (.getfield 19, 3) := by decide +kernel
theorem d_RW_hasCells_21 : decode b_RW_hasCells 21 = .ok (.iload_n 1, 1) := by decide +kernel
theorem d_RW_hasCells_22 : decode b_RW_hasCells 22 = .ok (.isub, 1) := by decide +kernel
theorem d_RW_hasCells_23 : decode b_RW_hasCells 23 = .ok (.if_icmp .gt 7, 3) := by decide +kernel
theorem d_RW_hasCells_26 : decode b_RW_hasCells 26 = .ok (.iconst 1, 1) := by decide +kernel
theorem d_RW_hasCells_27 : decode b_RW_hasCells 27 = .ok (.goto 4, 3) := by decide +kernel
theorem d_RW_hasCells_30 : decode b_RW_hasCells 30 = .ok (.iconst 0, 1) := by decide +kernel
theorem d_RW_hasCells_31 : decode b_RW_hasCells 31 = .ok (.ireturn, 1) := by decide +kernel
theorem d_RW_allWithin_0 : decode b_RW_allWithin 0 = .ok (.iload_n 1, 1) := by decide +kernel
theorem d_RW_allWithin_1 : decode b_RW_allWithin 1 = .ok (.istore 5, 2) := by decide +kernel
theorem d_RW_allWithin_3 : decode b_RW_allWithin 3 = .ok (.iload 5, 2) := by decide +kernel
theorem d_RW_allWithin_5 : decode b_RW_allWithin 5 = .ok (.iload_n 1, 1) := by decide +kernel
theorem d_RW_allWithin_6 : decode b_RW_allWithin 6 = .ok (.iload_n 2, 1) := by decide +kernel
theorem d_RW_allWithin_7 : decode b_RW_allWithin 7 = .ok (.iadd, 1) := by decide +kernel
theorem d_RW_allWithin_8 : decode b_RW_allWithin 8 = .ok (.if_icmp .ge 27, 3) := by decide +kernel
theorem d_RW_allWithin_11 : decode b_RW_allWithin 11 = .ok (.aload_n 0, 1) := by decide +kernel
theorem d_RW_allWithin_12 : decode b_RW_allWithin 12 = .ok (.getfield 9, 3) := by decide +kernel
theorem d_RW_allWithin_15 : decode b_RW_allWithin 15 = .ok (.iload 5, 2) := by decide +kernel
theorem d_RW_allWithin_17 : decode b_RW_allWithin 17 = .ok (.iaload, 1) := by decide +kernel
theorem d_RW_allWithin_18 : decode b_RW_allWithin 18 = .ok (.iload_n 3, 1) := by decide +kernel
theorem d_RW_allWithin_19 : decode b_RW_allWithin 19 = .ok (.iload 4, 2) := by decide +kernel
theorem d_RW_allWithin_21 : decode b_RW_allWithin 21 = .ok (.invokestatic 22, 3) := by decide +kernel
theorem d_RW_allWithin_24 : decode b_RW_allWithin 24 = .ok (.ifCond .ne 5, 3) := by decide +kernel
theorem d_RW_allWithin_27 : decode b_RW_allWithin 27 = .ok (.iconst 0, 1) := by decide +kernel
theorem d_RW_allWithin_28 : decode b_RW_allWithin 28 = .ok (.ireturn, 1) := by decide +kernel
theorem d_RW_allWithin_29 : decode b_RW_allWithin 29 = .ok (.iinc 5 1, 3) := by decide +kernel
theorem d_RW_allWithin_32 : decode b_RW_allWithin 32 = .ok (.goto (-29), 3) := by decide +kernel
theorem d_RW_allWithin_35 : decode b_RW_allWithin 35 = .ok (.iconst 1, 1) := by decide +kernel
theorem d_RW_allWithin_36 : decode b_RW_allWithin 36 = .ok (.ireturn, 1) := by decide +kernel
theorem d_RW_faultOfCells_0 : decode b_RW_faultOfCells 0 = .ok (.aload_n 0, 1) := by decide +kernel
theorem d_RW_faultOfCells_1 : decode b_RW_faultOfCells 1 = .ok (.invokevirtual 26, 3) := by decide +kernel
theorem d_RW_faultOfCells_4 : decode b_RW_faultOfCells 4 = .ok (.ifCond .eq 5, 3) := by decide +kernel
theorem d_RW_faultOfCells_7 : decode b_RW_faultOfCells 7 = .ok (.iconst 1, 1) := by decide +kernel
theorem d_RW_faultOfCells_8 : decode b_RW_faultOfCells 8 = .ok (.ireturn, 1) := by decide +kernel
theorem d_RW_faultOfCells_9 : decode b_RW_faultOfCells 9 = .ok (.aload_n 0, 1) := by decide +kernel
theorem d_RW_faultOfCells_10 : decode b_RW_faultOfCells 10 = .ok (.getfield 15, 3) := by decide +kernel
theorem d_RW_faultOfCells_13 : decode b_RW_faultOfCells 13 = .ok (.iload_n 1, 1) := by decide +kernel
theorem d_RW_faultOfCells_14 : decode b_RW_faultOfCells 14 = .ok (.if_icmp .eq 5, 3) := by decide +kernel
theorem d_RW_faultOfCells_17 : decode b_RW_faultOfCells 17 = .ok (.iconst 2, 1) := by decide +kernel
theorem d_RW_faultOfCells_18 : decode b_RW_faultOfCells 18 = .ok (.ireturn, 1) := by decide +kernel
theorem d_RW_faultOfCells_19 : decode b_RW_faultOfCells 19 = .ok (.iload_n 3, 1) := by decide +kernel
theorem d_RW_faultOfCells_20 : decode b_RW_faultOfCells 20 = .ok (.ifCond .ge 5, 3) := by decide +kernel
theorem d_RW_faultOfCells_23 : decode b_RW_faultOfCells 23 = .ok (.iconst 4, 1) := by decide +kernel
theorem d_RW_faultOfCells_24 : decode b_RW_faultOfCells 24 = .ok (.ireturn, 1) := by decide +kernel
theorem d_RW_faultOfCells_25 : decode b_RW_faultOfCells 25 = .ok (.aload_n 0, 1) := by decide +kernel
theorem d_RW_faultOfCells_26 : decode b_RW_faultOfCells 26 = .ok (.iload_n 2, 1) := by decide +kernel
theorem d_RW_faultOfCells_27 : decode b_RW_faultOfCells 27 = .ok (.iload_n 3, 1) := by decide +kernel
theorem d_RW_faultOfCells_28 : decode b_RW_faultOfCells 28 = .ok (.invokevirtual 30, 3) := by decide +kernel
theorem d_RW_faultOfCells_31 : decode b_RW_faultOfCells 31 = .ok (.ifCond .eq 7, 3) := by decide +kernel
theorem d_RW_faultOfCells_34 : decode b_RW_faultOfCells 34 = .ok (.iconst 0, 1) := by decide +kernel
theorem d_RW_faultOfCells_35 : decode b_RW_faultOfCells 35 = .ok (.goto 4, 3) := by decide +kernel
theorem d_RW_faultOfCells_38 : decode b_RW_faultOfCells 38 = .ok (.iconst 3, 1) := by decide +kernel
theorem d_RW_faultOfCells_39 : decode b_RW_faultOfCells 39 = .ok (.ireturn, 1) := by decide +kernel
theorem d_SE_init_0 : decode b_SE_init 0 = .ok (.aload_n 0, 1) := by decide +kernel
theorem d_SE_init_1 : decode b_SE_init 1 = .ok (.invokespecial 3, 3) := by decide +kernel
theorem d_SE_init_4 : decode b_SE_init 4 = .ok (.aload_n 0, 1) := by decide +kernel
theorem d_SE_init_5 : decode b_SE_init 5 = .ok (.bipush 6, 2) := by decide +kernel
theorem d_SE_init_7 : decode b_SE_init 7 = .ok (.newarray .int, 2) := by decide +kernel
theorem d_SE_init_9 : decode b_SE_init 9 = .ok (.putfield 9, 3) := by decide +kernel
theorem d_SE_init_12 : decode b_SE_init 12 = .ok (.aload_n 0, 1) := by decide +kernel
theorem d_SE_init_13 : decode b_SE_init 13 = .ok (.bipush 64, 2) := by decide +kernel
theorem d_SE_init_15 : decode b_SE_init 15 = .ok (.newarray .int, 2) := by decide +kernel
theorem d_SE_init_17 : decode b_SE_init 17 = .ok (.putfield 15, 3) := by decide +kernel
theorem d_SE_init_20 : decode b_SE_init 20 = .ok (.aload_n 0, 1) := by decide +kernel
theorem d_SE_init_21 : decode b_SE_init 21 = .ok (.bipush 64, 2) := by decide +kernel
theorem d_SE_init_23 : decode b_SE_init 23 = .ok (.newarray .int, 2) := by decide +kernel
theorem d_SE_init_25 : decode b_SE_init 25 = .ok (.putfield 18, 3) := by decide +kernel
theorem d_SE_init_28 : decode b_SE_init 28 = .ok (.return_, 1) := by decide +kernel
theorem d_SE_clear_0 : decode b_SE_clear 0 = .ok (.aload_n 0, 1) := by decide +kernel
theorem d_SE_clear_1 : decode b_SE_clear 1 = .ok (.iconst 0, 1) := by decide +kernel
theorem d_SE_clear_2 : decode b_SE_clear 2 = .ok (.putfield 21, 3) := by decide +kernel
theorem d_SE_clear_5 : decode b_SE_clear 5 = .ok (.return_, 1) := by decide +kernel
theorem d_SE_take_0 : decode b_SE_take 0 = .ok (.iload_n 1, 1) := by decide +kernel
theorem d_SE_take_1 : decode b_SE_take 1 = .ok (.ifCond .eq 32, 3) := by decide +kernel
theorem d_SE_take_4 : decode b_SE_take 4 = .ok (.aload_n 0, 1) := by decide +kernel
theorem d_SE_take_5 : decode b_SE_take 5 = .ok (.getfield 21, 3) := by decide +kernel
theorem d_SE_take_8 : decode b_SE_take 8 = .ok (.bipush 6, 2) := by decide +kernel
theorem d_SE_take_10 : decode b_SE_take 10 = .ok (.if_icmp .ge 23, 3) := by decide +kernel
theorem d_SE_take_13 : decode b_SE_take 13 = .ok (.aload_n 0, 1) := by decide +kernel
theorem d_SE_take_14 : decode b_SE_take 14 = .ok (.getfield 9, 3) := by decide +kernel
theorem d_SE_take_17 : decode b_SE_take 17 = .ok (.aload_n 0, 1) := by decide +kernel
theorem d_SE_take_18 : decode b_SE_take 18 = .ok (.getfield 21, 3) := by decide +kernel
theorem d_SE_take_21 : decode b_SE_take 21 = .ok (.iload_n 1, 1) := by decide +kernel
theorem d_SE_take_22 : decode b_SE_take 22 = .ok (.iastore, 1) := by decide +kernel
theorem d_SE_take_23 : decode b_SE_take 23 = .ok (.aload_n 0, 1) := by decide +kernel
theorem d_SE_take_24 : decode b_SE_take 24 = .ok (.dup, 1) := by decide +kernel
theorem d_SE_take_25 : decode b_SE_take 25 = .ok (.getfield 21, 3) := by decide +kernel
theorem d_SE_take_28 : decode b_SE_take 28 = .ok (.iconst 1, 1) := by decide +kernel
theorem d_SE_take_29 : decode b_SE_take 29 = .ok (.iadd, 1) := by decide +kernel
theorem d_SE_take_30 : decode b_SE_take 30 = .ok (.putfield 21, 3) := by decide +kernel
theorem d_SE_take_33 : decode b_SE_take 33 = .ok (.return_, 1) := by decide +kernel
theorem d_SE_fewestPayments_0 : decode b_SE_fewestPayments 0 = .ok (.iconst 1, 1) := by decide +kernel
theorem d_SE_fewestPayments_1 : decode b_SE_fewestPayments 1 = .ok (.aload_n 0, 1) := by decide +kernel
theorem d_SE_fewestPayments_2 : decode b_SE_fewestPayments 2 = .ok (.getfield 21, 3) := by decide +kernel
theorem d_SE_fewestPayments_5 : decode b_SE_fewestPayments 5 = .ok (.ishl, 1) := by decide +kernel
theorem d_SE_fewestPayments_6 : decode b_SE_fewestPayments 6 = .ok (.istore_n 1, 1) := by decide +kernel
theorem d_SE_fewestPayments_7 : decode b_SE_fewestPayments 7 = .ok (.iconst 1, 1) := by decide +kernel
theorem d_SE_fewestPayments_8 : decode b_SE_fewestPayments 8 = .ok (.istore_n 2, 1) := by decide +kernel
theorem d_SE_fewestPayments_9 : decode b_SE_fewestPayments 9 = .ok (.iload_n 2, 1) := by decide +kernel
theorem d_SE_fewestPayments_10 : decode b_SE_fewestPayments 10 = .ok (.iload_n 1, 1) := by decide +kernel
theorem d_SE_fewestPayments_11 : decode b_SE_fewestPayments 11 = .ok (.if_icmp .ge 14, 3) := by decide +kernel
theorem d_SE_fewestPayments_14 : decode b_SE_fewestPayments 14 = .ok (.aload_n 0, 1) := by decide +kernel
theorem d_SE_fewestPayments_15 : decode b_SE_fewestPayments 15 = .ok (.iload_n 2, 1) := by decide +kernel
theorem d_SE_fewestPayments_16 : decode b_SE_fewestPayments 16 = .ok (.invokevirtual 25, 3) := by decide +kernel
theorem d_SE_fewestPayments_19 : decode b_SE_fewestPayments 19 = .ok (.iinc 2 1, 3) := by decide +kernel
theorem d_SE_fewestPayments_22 : decode b_SE_fewestPayments 22 = .ok (.goto (-13), 3) := by decide +kernel
theorem d_SE_fewestPayments_25 : decode b_SE_fewestPayments 25 = .ok (.aload_n 0, 1) := by decide +kernel
theorem d_SE_fewestPayments_26 : decode b_SE_fewestPayments 26 = .ok (.getfield 21, 3) := by decide +kernel
theorem d_SE_fewestPayments_29 : decode b_SE_fewestPayments 29 = .ok (.aload_n 0, 1) := by decide +kernel
theorem d_SE_fewestPayments_30 : decode b_SE_fewestPayments 30 = .ok (.getfield 18, 3) := by decide +kernel
theorem d_SE_fewestPayments_33 : decode b_SE_fewestPayments 33 = .ok (.iload_n 1, 1) := by decide +kernel
theorem d_SE_fewestPayments_34 : decode b_SE_fewestPayments 34 = .ok (.iconst 1, 1) := by decide +kernel
theorem d_SE_fewestPayments_35 : decode b_SE_fewestPayments 35 = .ok (.isub, 1) := by decide +kernel
theorem d_SE_fewestPayments_36 : decode b_SE_fewestPayments 36 = .ok (.iaload, 1) := by decide +kernel
theorem d_SE_fewestPayments_37 : decode b_SE_fewestPayments 37 = .ok (.isub, 1) := by decide +kernel
theorem d_SE_fewestPayments_38 : decode b_SE_fewestPayments 38 = .ok (.ireturn, 1) := by decide +kernel
theorem d_SE_fill_0 : decode b_SE_fill 0 = .ok (.iconst 0, 1) := by decide +kernel
theorem d_SE_fill_1 : decode b_SE_fill 1 = .ok (.istore_n 2, 1) := by decide +kernel
theorem d_SE_fill_2 : decode b_SE_fill 2 = .ok (.iconst 0, 1) := by decide +kernel
theorem d_SE_fill_3 : decode b_SE_fill 3 = .ok (.istore_n 3, 1) := by decide +kernel
theorem d_SE_fill_4 : decode b_SE_fill 4 = .ok (.iconst 0, 1) := by decide +kernel
theorem d_SE_fill_5 : decode b_SE_fill 5 = .ok (.istore 4, 2) := by decide +kernel
theorem d_SE_fill_7 : decode b_SE_fill 7 = .ok (.iload 4, 2) := by decide +kernel
theorem d_SE_fill_9 : decode b_SE_fill 9 = .ok (.aload_n 0, 1) := by decide +kernel
theorem d_SE_fill_10 : decode b_SE_fill 10 = .ok (.getfield 21, 3) := by decide +kernel
theorem d_SE_fill_13 : decode b_SE_fill 13 = .ok (.if_icmp .ge 54, 3) := by decide +kernel
theorem d_SE_fill_16 : decode b_SE_fill 16 = .ok (.iconst 1, 1) := by decide +kernel
theorem d_SE_fill_17 : decode b_SE_fill 17 = .ok (.iload 4, 2) := by decide +kernel
theorem d_SE_fill_19 : decode b_SE_fill 19 = .ok (.ishl, 1) := by decide +kernel
theorem d_SE_fill_20 : decode b_SE_fill 20 = .ok (.istore 5, 2) := by decide +kernel
theorem d_SE_fill_22 : decode b_SE_fill 22 = .ok (.iload_n 1, 1) := by decide +kernel
theorem d_SE_fill_23 : decode b_SE_fill 23 = .ok (.iload 5, 2) := by decide +kernel
theorem d_SE_fill_25 : decode b_SE_fill 25 = .ok (.iand, 1) := by decide +kernel
theorem d_SE_fill_26 : decode b_SE_fill 26 = .ok (.ifCond .eq 35, 3) := by decide +kernel
theorem d_SE_fill_29 : decode b_SE_fill 29 = .ok (.iload_n 2, 1) := by decide +kernel
theorem d_SE_fill_30 : decode b_SE_fill 30 = .ok (.aload_n 0, 1) := by decide +kernel
theorem d_SE_fill_31 : decode b_SE_fill 31 = .ok (.getfield 18, 3) := by decide +kernel
theorem d_SE_fill_34 : decode b_SE_fill 34 = .ok (.iload_n 1, 1) := by decide +kernel
theorem d_SE_fill_35 : decode b_SE_fill 35 = .ok (.iload 5, 2) := by decide +kernel
theorem d_SE_fill_37 : decode b_SE_fill 37 = .ok (.ixor, 1) := by decide +kernel
theorem d_SE_fill_38 : decode b_SE_fill 38 = .ok (.iaload, 1) := by decide +kernel
theorem d_SE_fill_39 : decode b_SE_fill 39 = .ok (.invokestatic 29, 3) := by decide +kernel
theorem d_SE_fill_42 : decode b_SE_fill 42 = .ok (.istore_n 2, 1) := by decide +kernel
theorem d_SE_fill_43 : decode b_SE_fill 43 = .ok (.aload_n 0, 1) := by decide +kernel
theorem d_SE_fill_44 : decode b_SE_fill 44 = .ok (.getfield 15, 3) := by decide +kernel
theorem d_SE_fill_47 : decode b_SE_fill 47 = .ok (.iload_n 1, 1) := by decide +kernel
theorem d_SE_fill_48 : decode b_SE_fill 48 = .ok (.iload 5, 2) := by decide +kernel
theorem d_SE_fill_50 : decode b_SE_fill 50 = .ok (.ixor, 1) := by decide +kernel
theorem d_SE_fill_51 : decode b_SE_fill 51 = .ok (.iaload, 1) := by decide +kernel
theorem d_SE_fill_52 : decode b_SE_fill 52 = .ok (.aload_n 0, 1) := by decide +kernel
theorem d_SE_fill_53 : decode b_SE_fill 53 = .ok (.getfield 9, 3) := by decide +kernel
theorem d_SE_fill_56 : decode b_SE_fill 56 = .ok (.iload 4, 2) := by decide +kernel
theorem d_SE_fill_58 : decode b_SE_fill 58 = .ok (.iaload, 1) := by decide +kernel
theorem d_SE_fill_59 : decode b_SE_fill 59 = .ok (.iadd, 1) := by decide +kernel
theorem d_SE_fill_60 : decode b_SE_fill 60 = .ok (.istore_n 3, 1) := by decide +kernel
theorem d_SE_fill_61 : decode b_SE_fill 61 = .ok (.iinc 4 1, 3) := by decide +kernel
theorem d_SE_fill_64 : decode b_SE_fill 64 = .ok (.goto (-57), 3) := by decide +kernel
theorem d_SE_fill_67 : decode b_SE_fill 67 = .ok (.aload_n 0, 1) := by decide +kernel
theorem d_SE_fill_68 : decode b_SE_fill 68 = .ok (.getfield 15, 3) := by decide +kernel
theorem d_SE_fill_71 : decode b_SE_fill 71 = .ok (.iload_n 1, 1) := by decide +kernel
theorem d_SE_fill_72 : decode b_SE_fill 72 = .ok (.iload_n 3, 1) := by decide +kernel
theorem d_SE_fill_73 : decode b_SE_fill 73 = .ok (.iastore, 1) := by decide +kernel
theorem d_SE_fill_74 : decode b_SE_fill 74 = .ok (.aload_n 0, 1) := by decide +kernel
theorem d_SE_fill_75 : decode b_SE_fill 75 = .ok (.getfield 18, 3) := by decide +kernel
theorem d_SE_fill_78 : decode b_SE_fill 78 = .ok (.iload_n 1, 1) := by decide +kernel
theorem d_SE_fill_79 : decode b_SE_fill 79 = .ok (.iload_n 3, 1) := by decide +kernel
theorem d_SE_fill_80 : decode b_SE_fill 80 = .ok (.ifCond .ne 9, 3) := by decide +kernel
theorem d_SE_fill_83 : decode b_SE_fill 83 = .ok (.iload_n 2, 1) := by decide +kernel
theorem d_SE_fill_84 : decode b_SE_fill 84 = .ok (.iconst 1, 1) := by decide +kernel
theorem d_SE_fill_85 : decode b_SE_fill 85 = .ok (.iadd, 1) := by decide +kernel
theorem d_SE_fill_86 : decode b_SE_fill 86 = .ok (.goto 4, 3) := by decide +kernel
theorem d_SE_fill_89 : decode b_SE_fill 89 = .ok (.iload_n 2, 1) := by decide +kernel
theorem d_SE_fill_90 : decode b_SE_fill 90 = .ok (.iastore, 1) := by decide +kernel
theorem d_SE_fill_91 : decode b_SE_fill 91 = .ok (.return_, 1) := by decide +kernel
theorem d_TX_firstFault_0 : decode b_TX_firstFault 0 = .ok (.iconst 0, 1) := by decide +kernel
theorem d_TX_firstFault_1 : decode b_TX_firstFault 1 = .ok (.istore_n 3, 1) := by decide +kernel
theorem d_TX_firstFault_2 : decode b_TX_firstFault 2 = .ok (.iload_n 3, 1) := by decide +kernel
theorem d_TX_firstFault_3 : decode b_TX_firstFault 3 = .ok (.iload_n 2, 1) := by decide +kernel
theorem d_TX_firstFault_4 : decode b_TX_firstFault 4 = .ok (.if_icmp .ge 20, 3) := by decide +kernel
theorem d_TX_firstFault_7 : decode b_TX_firstFault 7 = .ok (.aload_n 0, 1) := by decide +kernel
theorem d_TX_firstFault_8 : decode b_TX_firstFault 8 = .ok (.iload_n 1, 1) := by decide +kernel
theorem d_TX_firstFault_9 : decode b_TX_firstFault 9 = .ok (.iload_n 3, 1) := by decide +kernel
theorem d_TX_firstFault_10 : decode b_TX_firstFault 10 = .ok (.invokestatic 9, 3) := by decide +kernel
theorem d_TX_firstFault_13 : decode b_TX_firstFault 13 = .ok (.ifCond .ne 5, 3) := by decide +kernel
theorem d_TX_firstFault_16 : decode b_TX_firstFault 16 = .ok (.iload_n 3, 1) := by decide +kernel
theorem d_TX_firstFault_17 : decode b_TX_firstFault 17 = .ok (.ireturn, 1) := by decide +kernel
theorem d_TX_firstFault_18 : decode b_TX_firstFault 18 = .ok (.iinc 3 1, 3) := by decide +kernel
theorem d_TX_firstFault_21 : decode b_TX_firstFault 21 = .ok (.goto (-19), 3) := by decide +kernel
theorem d_TX_firstFault_24 : decode b_TX_firstFault 24 = .ok (.iload_n 2, 1) := by decide +kernel
theorem d_TX_firstFault_25 : decode b_TX_firstFault 25 = .ok (.iload_n 2, 1) := by decide +kernel
theorem d_TX_firstFault_26 : decode b_TX_firstFault 26 = .ok (.invokestatic 15, 3) := by decide +kernel
theorem d_TX_firstFault_29 : decode b_TX_firstFault 29 = .ok (.invokestatic 19, 3) := by decide +kernel
theorem d_TX_firstFault_32 : decode b_TX_firstFault 32 = .ok (.if_icmp .ne 7, 3) := by decide +kernel
theorem d_TX_firstFault_35 : decode b_TX_firstFault 35 = .ok (.iconst 1, 1) := by decide +kernel
theorem d_TX_firstFault_36 : decode b_TX_firstFault 36 = .ok (.goto 4, 3) := by decide +kernel
theorem d_TX_firstFault_39 : decode b_TX_firstFault 39 = .ok (.iconst 0, 1) := by decide +kernel
theorem d_TX_firstFault_40 : decode b_TX_firstFault 40 = .ok (.istore_n 3, 1) := by decide +kernel
theorem d_TX_firstFault_41 : decode b_TX_firstFault 41 = .ok (.iload_n 3, 1) := by decide +kernel
theorem d_TX_firstFault_42 : decode b_TX_firstFault 42 = .ok (.ifCond .eq 16, 3) := by decide +kernel
theorem d_TX_firstFault_45 : decode b_TX_firstFault 45 = .ok (.iload_n 2, 1) := by decide +kernel
theorem d_TX_firstFault_46 : decode b_TX_firstFault 46 = .ok (.invokestatic 15, 3) := by decide +kernel
theorem d_TX_firstFault_49 : decode b_TX_firstFault 49 = .ok (.iconst 2, 1) := by decide +kernel
theorem d_TX_firstFault_50 : decode b_TX_firstFault 50 = .ok (.if_icmp .lt 8, 3) := by decide +kernel
theorem d_TX_firstFault_53 : decode b_TX_firstFault 53 = .ok (.bipush (-9), 2) := by decide +kernel
theorem d_TX_firstFault_55 : decode b_TX_firstFault 55 = .ok (.goto 4, 3) := by decide +kernel
theorem d_TX_firstFault_58 : decode b_TX_firstFault 58 = .ok (.iload_n 2, 1) := by decide +kernel
theorem d_TX_firstFault_59 : decode b_TX_firstFault 59 = .ok (.ireturn, 1) := by decide +kernel
theorem d_TX_personsOf_0 : decode b_TX_personsOf 0 = .ok (.iload_n 0, 1) := by decide +kernel
theorem d_TX_personsOf_1 : decode b_TX_personsOf 1 = .ok (.iconst 1, 1) := by decide +kernel
theorem d_TX_personsOf_2 : decode b_TX_personsOf 2 = .ok (.if_icmp .ge 7, 3) := by decide +kernel
theorem d_TX_personsOf_5 : decode b_TX_personsOf 5 = .ok (.iconst 0, 1) := by decide +kernel
theorem d_TX_personsOf_6 : decode b_TX_personsOf 6 = .ok (.goto 8, 3) := by decide +kernel
theorem d_TX_personsOf_9 : decode b_TX_personsOf 9 = .ok (.iload_n 0, 1) := by decide +kernel
theorem d_TX_personsOf_10 : decode b_TX_personsOf 10 = .ok (.iconst 1, 1) := by decide +kernel
theorem d_TX_personsOf_11 : decode b_TX_personsOf 11 = .ok (.isub, 1) := by decide +kernel
theorem d_TX_personsOf_12 : decode b_TX_personsOf 12 = .ok (.iconst 3, 1) := by decide +kernel
theorem d_TX_personsOf_13 : decode b_TX_personsOf 13 = .ok (.idiv, 1) := by decide +kernel
theorem d_TX_personsOf_14 : decode b_TX_personsOf 14 = .ok (.ireturn, 1) := by decide +kernel
theorem d_TX_letterOf_0 : decode b_TX_letterOf 0 = .ok (.iconst 1, 1) := by decide +kernel
theorem d_TX_letterOf_1 : decode b_TX_letterOf 1 = .ok (.iconst 3, 1) := by decide +kernel
theorem d_TX_letterOf_2 : decode b_TX_letterOf 2 = .ok (.iload_n 0, 1) := by decide +kernel
theorem d_TX_letterOf_3 : decode b_TX_letterOf 3 = .ok (.imul, 1) := by decide +kernel
theorem d_TX_letterOf_4 : decode b_TX_letterOf 4 = .ok (.iadd, 1) := by decide +kernel
theorem d_TX_letterOf_5 : decode b_TX_letterOf 5 = .ok (.ireturn, 1) := by decide +kernel
theorem d_TX_liftAt_0 : decode b_TX_liftAt 0 = .ok (.bipush 10, 2) := by decide +kernel
theorem d_TX_liftAt_2 : decode b_TX_liftAt 2 = .ok (.aload_n 0, 1) := by decide +kernel
theorem d_TX_liftAt_3 : decode b_TX_liftAt 3 = .ok (.iload_n 1, 1) := by decide +kernel
theorem d_TX_liftAt_4 : decode b_TX_liftAt 4 = .ok (.iaload, 1) := by decide +kernel
theorem d_TX_liftAt_5 : decode b_TX_liftAt 5 = .ok (.bipush 48, 2) := by decide +kernel
theorem d_TX_liftAt_7 : decode b_TX_liftAt 7 = .ok (.isub, 1) := by decide +kernel
theorem d_TX_liftAt_8 : decode b_TX_liftAt 8 = .ok (.imul, 1) := by decide +kernel
theorem d_TX_liftAt_9 : decode b_TX_liftAt 9 = .ok (.aload_n 0, 1) := by decide +kernel
theorem d_TX_liftAt_10 : decode b_TX_liftAt 10 = .ok (.iload_n 1, 1) := by decide +kernel
theorem d_TX_liftAt_11 : decode b_TX_liftAt 11 = .ok (.iconst 1, 1) := by decide +kernel
theorem d_TX_liftAt_12 : decode b_TX_liftAt 12 = .ok (.iadd, 1) := by decide +kernel
theorem d_TX_liftAt_13 : decode b_TX_liftAt 13 = .ok (.iaload, 1) := by decide +kernel
theorem d_TX_liftAt_14 : decode b_TX_liftAt 14 = .ok (.iadd, 1) := by decide +kernel
theorem d_TX_liftAt_15 : decode b_TX_liftAt 15 = .ok (.bipush 48, 2) := by decide +kernel
theorem d_TX_liftAt_17 : decode b_TX_liftAt 17 = .ok (.isub, 1) := by decide +kernel
theorem d_TX_liftAt_18 : decode b_TX_liftAt 18 = .ok (.ireturn, 1) := by decide +kernel
theorem d_TX_goesOn_0 : decode b_TX_goesOn 0 = .ok (.aload_n 0, 1) := by decide +kernel
theorem d_TX_goesOn_1 : decode b_TX_goesOn 1 = .ok (.iload_n 1, 1) := by decide +kernel
theorem d_TX_goesOn_2 : decode b_TX_goesOn 2 = .ok (.iload_n 2, 1) := by decide +kernel
theorem d_TX_goesOn_3 : decode b_TX_goesOn 3 = .ok (.iadd, 1) := by decide +kernel
theorem d_TX_goesOn_4 : decode b_TX_goesOn 4 = .ok (.iaload, 1) := by decide +kernel
theorem d_TX_goesOn_5 : decode b_TX_goesOn 5 = .ok (.istore_n 3, 1) := by decide +kernel
theorem d_TX_goesOn_6 : decode b_TX_goesOn 6 = .ok (.iload_n 2, 1) := by decide +kernel
theorem d_TX_goesOn_7 : decode b_TX_goesOn 7 = .ok (.ifCond .ne 15, 3) := by decide +kernel
theorem d_TX_goesOn_10 : decode b_TX_goesOn 10 = .ok (.iload_n 3, 1) := by decide +kernel
theorem d_TX_goesOn_11 : decode b_TX_goesOn 11 = .ok (.bipush 112, 2) := by decide +kernel
theorem d_TX_goesOn_13 : decode b_TX_goesOn 13 = .ok (.if_icmp .ne 7, 3) := by decide +kernel
theorem d_TX_goesOn_16 : decode b_TX_goesOn 16 = .ok (.iconst 1, 1) := by decide +kernel
theorem d_TX_goesOn_17 : decode b_TX_goesOn 17 = .ok (.goto 4, 3) := by decide +kernel
theorem d_TX_goesOn_20 : decode b_TX_goesOn 20 = .ok (.iconst 0, 1) := by decide +kernel
theorem d_TX_goesOn_21 : decode b_TX_goesOn 21 = .ok (.ireturn, 1) := by decide +kernel
theorem d_TX_goesOn_22 : decode b_TX_goesOn 22 = .ok (.iload_n 2, 1) := by decide +kernel
theorem d_TX_goesOn_23 : decode b_TX_goesOn 23 = .ok (.invokestatic 15, 3) := by decide +kernel
theorem d_TX_goesOn_26 : decode b_TX_goesOn 26 = .ok (.bipush 6, 2) := by decide +kernel
theorem d_TX_goesOn_28 : decode b_TX_goesOn 28 = .ok (.if_icmp .lt 5, 3) := by decide +kernel
theorem d_TX_goesOn_31 : decode b_TX_goesOn 31 = .ok (.iconst 0, 1) := by decide +kernel
theorem d_TX_goesOn_32 : decode b_TX_goesOn 32 = .ok (.ireturn, 1) := by decide +kernel
theorem d_TX_goesOn_33 : decode b_TX_goesOn 33 = .ok (.iload_n 2, 1) := by decide +kernel
theorem d_TX_goesOn_34 : decode b_TX_goesOn 34 = .ok (.iconst 1, 1) := by decide +kernel
theorem d_TX_goesOn_35 : decode b_TX_goesOn 35 = .ok (.isub, 1) := by decide +kernel
theorem d_TX_goesOn_36 : decode b_TX_goesOn 36 = .ok (.iconst 3, 1) := by decide +kernel
theorem d_TX_goesOn_37 : decode b_TX_goesOn 37 = .ok (.irem, 1) := by decide +kernel
theorem d_TX_goesOn_38 : decode b_TX_goesOn 38 = .ok (.lookupswitch 68 #[(0, 26), (1, 50)], 26) := by decide +kernel
theorem d_TX_goesOn_64 : decode b_TX_goesOn 64 = .ok (.iload_n 3, 1) := by decide +kernel
theorem d_TX_goesOn_65 : decode b_TX_goesOn 65 = .ok (.bipush 119, 2) := by decide +kernel
theorem d_TX_goesOn_67 : decode b_TX_goesOn 67 = .ok (.if_icmp .eq 15, 3) := by decide +kernel
theorem d_TX_goesOn_70 : decode b_TX_goesOn 70 = .ok (.iload_n 3, 1) := by decide +kernel
theorem d_TX_goesOn_71 : decode b_TX_goesOn 71 = .ok (.bipush 109, 2) := by decide +kernel
theorem d_TX_goesOn_73 : decode b_TX_goesOn 73 = .ok (.if_icmp .eq 9, 3) := by decide +kernel
theorem d_TX_goesOn_76 : decode b_TX_goesOn 76 = .ok (.iload_n 3, 1) := by decide +kernel
theorem d_TX_goesOn_77 : decode b_TX_goesOn 77 = .ok (.bipush 108, 2) := by decide +kernel
theorem d_TX_goesOn_79 : decode b_TX_goesOn 79 = .ok (.if_icmp .ne 7, 3) := by decide +kernel
theorem d_TX_goesOn_82 : decode b_TX_goesOn 82 = .ok (.iconst 1, 1) := by decide +kernel
theorem d_TX_goesOn_83 : decode b_TX_goesOn 83 = .ok (.goto 4, 3) := by decide +kernel
theorem d_TX_goesOn_86 : decode b_TX_goesOn 86 = .ok (.iconst 0, 1) := by decide +kernel
theorem d_TX_goesOn_87 : decode b_TX_goesOn 87 = .ok (.ireturn, 1) := by decide +kernel
theorem d_TX_goesOn_88 : decode b_TX_goesOn 88 = .ok (.iload_n 3, 1) := by decide +kernel
theorem d_TX_goesOn_89 : decode b_TX_goesOn 89 = .ok (.bipush 48, 2) := by decide +kernel
theorem d_TX_goesOn_91 : decode b_TX_goesOn 91 = .ok (.if_icmp .lt 13, 3) := by decide +kernel
theorem d_TX_goesOn_94 : decode b_TX_goesOn 94 = .ok (.iload_n 3, 1) := by decide +kernel
theorem d_TX_goesOn_95 : decode b_TX_goesOn 95 = .ok (.bipush 52, 2) := by decide +kernel
theorem d_TX_goesOn_97 : decode b_TX_goesOn 97 = .ok (.if_icmp .gt 7, 3) := by decide +kernel
theorem d_TX_goesOn_100 : decode b_TX_goesOn 100 = .ok (.iconst 1, 1) := by decide +kernel
theorem d_TX_goesOn_101 : decode b_TX_goesOn 101 = .ok (.goto 4, 3) := by decide +kernel
theorem d_TX_goesOn_104 : decode b_TX_goesOn 104 = .ok (.iconst 0, 1) := by decide +kernel
theorem d_TX_goesOn_105 : decode b_TX_goesOn 105 = .ok (.ireturn, 1) := by decide +kernel
theorem d_TX_goesOn_106 : decode b_TX_goesOn 106 = .ok (.aload_n 0, 1) := by decide +kernel
theorem d_TX_goesOn_107 : decode b_TX_goesOn 107 = .ok (.iload_n 1, 1) := by decide +kernel
theorem d_TX_goesOn_108 : decode b_TX_goesOn 108 = .ok (.iload_n 2, 1) := by decide +kernel
theorem d_TX_goesOn_109 : decode b_TX_goesOn 109 = .ok (.iadd, 1) := by decide +kernel
theorem d_TX_goesOn_110 : decode b_TX_goesOn 110 = .ok (.iconst 1, 1) := by decide +kernel
theorem d_TX_goesOn_111 : decode b_TX_goesOn 111 = .ok (.isub, 1) := by decide +kernel
theorem d_TX_goesOn_112 : decode b_TX_goesOn 112 = .ok (.iaload, 1) := by decide +kernel
theorem d_TX_goesOn_113 : decode b_TX_goesOn 113 = .ok (.iload_n 3, 1) := by decide +kernel
theorem d_TX_goesOn_114 : decode b_TX_goesOn 114 = .ok (.invokestatic 22, 3) := by decide +kernel
theorem d_TX_goesOn_117 : decode b_TX_goesOn 117 = .ok (.ireturn, 1) := by decide +kernel
theorem d_TX_isSecondDigit_0 : decode b_TX_isSecondDigit 0 = .ok (.iload_n 0, 1) := by decide +kernel
theorem d_TX_isSecondDigit_1 : decode b_TX_isSecondDigit 1 = .ok (.bipush 52, 2) := by decide +kernel
theorem d_TX_isSecondDigit_3 : decode b_TX_isSecondDigit 3 = .ok (.if_icmp .ne 15, 3) := by decide +kernel
theorem d_TX_isSecondDigit_6 : decode b_TX_isSecondDigit 6 = .ok (.iload_n 1, 1) := by decide +kernel
theorem d_TX_isSecondDigit_7 : decode b_TX_isSecondDigit 7 = .ok (.bipush 48, 2) := by decide +kernel
theorem d_TX_isSecondDigit_9 : decode b_TX_isSecondDigit 9 = .ok (.if_icmp .ne 7, 3) := by decide +kernel
theorem d_TX_isSecondDigit_12 : decode b_TX_isSecondDigit 12 = .ok (.iconst 1, 1) := by decide +kernel
theorem d_TX_isSecondDigit_13 : decode b_TX_isSecondDigit 13 = .ok (.goto 4, 3) := by decide +kernel
theorem d_TX_isSecondDigit_16 : decode b_TX_isSecondDigit 16 = .ok (.iconst 0, 1) := by decide +kernel
theorem d_TX_isSecondDigit_17 : decode b_TX_isSecondDigit 17 = .ok (.ireturn, 1) := by decide +kernel
theorem d_TX_isSecondDigit_18 : decode b_TX_isSecondDigit 18 = .ok (.iload_n 1, 1) := by decide +kernel
theorem d_TX_isSecondDigit_19 : decode b_TX_isSecondDigit 19 = .ok (.iload_n 0, 1) := by decide +kernel
theorem d_TX_isSecondDigit_20 : decode b_TX_isSecondDigit 20 = .ok (.bipush 48, 2) := by decide +kernel
theorem d_TX_isSecondDigit_22 : decode b_TX_isSecondDigit 22 = .ok (.if_icmp .ne 8, 3) := by decide +kernel
theorem d_TX_isSecondDigit_25 : decode b_TX_isSecondDigit 25 = .ok (.bipush 49, 2) := by decide +kernel
theorem d_TX_isSecondDigit_27 : decode b_TX_isSecondDigit 27 = .ok (.goto 5, 3) := by decide +kernel
theorem d_TX_isSecondDigit_30 : decode b_TX_isSecondDigit 30 = .ok (.bipush 48, 2) := by decide +kernel
theorem d_TX_isSecondDigit_32 : decode b_TX_isSecondDigit 32 = .ok (.if_icmp .lt 13, 3) := by decide +kernel
theorem d_TX_isSecondDigit_35 : decode b_TX_isSecondDigit 35 = .ok (.iload_n 1, 1) := by decide +kernel
theorem d_TX_isSecondDigit_36 : decode b_TX_isSecondDigit 36 = .ok (.bipush 57, 2) := by decide +kernel
theorem d_TX_isSecondDigit_38 : decode b_TX_isSecondDigit 38 = .ok (.if_icmp .gt 7, 3) := by decide +kernel
theorem d_TX_isSecondDigit_41 : decode b_TX_isSecondDigit 41 = .ok (.iconst 1, 1) := by decide +kernel
theorem d_TX_isSecondDigit_42 : decode b_TX_isSecondDigit 42 = .ok (.goto 4, 3) := by decide +kernel
theorem d_TX_isSecondDigit_45 : decode b_TX_isSecondDigit 45 = .ok (.iconst 0, 1) := by decide +kernel
theorem d_TX_isSecondDigit_46 : decode b_TX_isSecondDigit 46 = .ok (.ireturn, 1) := by decide +kernel
theorem d_TR_init_0 : decode b_TR_init 0 = .ok (.aload_n 0, 1) := by decide +kernel
theorem d_TR_init_1 : decode b_TR_init 1 = .ok (.invokespecial 1, 3) := by decide +kernel
theorem d_TR_init_4 : decode b_TR_init 4 = .ok (.return_, 1) := by decide +kernel
theorem d_TR_leave_0 : decode b_TR_leave 0 = .ok (.aload_n 0, 1) := by decide +kernel
theorem d_TR_leave_1 : decode b_TR_leave 1 = .ok (.bipush 31, 2) := by decide +kernel
theorem d_TR_leave_3 : decode b_TR_leave 3 = .ok (.aload_n 0, 1) := by decide +kernel
theorem d_TR_leave_4 : decode b_TR_leave 4 = .ok (.getfield 7, 3) := by decide +kernel
theorem d_TR_leave_7 : decode b_TR_leave 7 = .ok (.imul, 1) := by decide +kernel
theorem d_TR_leave_8 : decode b_TR_leave 8 = .ok (.iload_n 1, 1) := by decide +kernel
theorem d_TR_leave_9 : decode b_TR_leave 9 = .ok (.iadd, 1) := by decide +kernel
theorem d_TR_leave_10 : decode b_TR_leave 10 = .ok (.putfield 7, 3) := by decide +kernel
theorem d_TR_leave_13 : decode b_TR_leave 13 = .ok (.return_, 1) := by decide +kernel
theorem d_TU_init_0 : decode b_TU_init 0 = .ok (.aload_n 0, 1) := by decide +kernel
theorem d_TU_init_1 : decode b_TU_init 1 = .ok (.invokespecial 3, 3) := by decide +kernel
theorem d_TU_init_4 : decode b_TU_init 4 = .ok (.aload_n 0, 1) := by decide +kernel
theorem d_TU_init_5 : decode b_TU_init 5 = .ok (.bipush 8, 2) := by decide +kernel
theorem d_TU_init_7 : decode b_TU_init 7 = .ok (.bipush 41, 2) := by decide +kernel
theorem d_TU_init_9 : decode b_TU_init 9 = .ok (.multianewarray 9 2, 4) := by decide +kernel
theorem d_TU_init_13 : decode b_TU_init 13 = .ok (.putfield 11, 3) := by decide +kernel
theorem d_TU_init_16 : decode b_TU_init 16 = .ok (.aload_n 0, 1) := by decide +kernel
theorem d_TU_init_17 : decode b_TU_init 17 = .ok (.iconst 2, 1) := by decide +kernel
theorem d_TU_init_18 : decode b_TU_init 18 = .ok (.bipush 41, 2) := by decide +kernel
theorem d_TU_init_20 : decode b_TU_init 20 = .ok (.multianewarray 9 2, 4) := by decide +kernel
theorem d_TU_init_24 : decode b_TU_init 24 = .ok (.putfield 16, 3) := by decide +kernel
theorem d_TU_init_27 : decode b_TU_init 27 = .ok (.aload_n 0, 1) := by decide +kernel
theorem d_TU_init_28 : decode b_TU_init 28 = .ok (.iconst 2, 1) := by decide +kernel
theorem d_TU_init_29 : decode b_TU_init 29 = .ok (.bipush 41, 2) := by decide +kernel
theorem d_TU_init_31 : decode b_TU_init 31 = .ok (.multianewarray 9 2, 4) := by decide +kernel
theorem d_TU_init_35 : decode b_TU_init 35 = .ok (.putfield 19, 3) := by decide +kernel
theorem d_TU_init_38 : decode b_TU_init 38 = .ok (.aload_n 0, 1) := by decide +kernel
theorem d_TU_init_39 : decode b_TU_init 39 = .ok (.iconst 2, 1) := by decide +kernel
theorem d_TU_init_40 : decode b_TU_init 40 = .ok (.bipush 41, 2) := by decide +kernel
theorem d_TU_init_42 : decode b_TU_init 42 = .ok (.multianewarray 9 2, 4) := by decide +kernel
theorem d_TU_init_46 : decode b_TU_init 46 = .ok (.putfield 22, 3) := by decide +kernel
theorem d_TU_init_49 : decode b_TU_init 49 = .ok (.aload_n 0, 1) := by decide +kernel
theorem d_TU_init_50 : decode b_TU_init 50 = .ok (.iconst 2, 1) := by decide +kernel
theorem d_TU_init_51 : decode b_TU_init 51 = .ok (.newarray .int, 2) := by decide +kernel
theorem d_TU_init_53 : decode b_TU_init 53 = .ok (.putfield 25, 3) := by decide +kernel
theorem d_TU_init_56 : decode b_TU_init 56 = .ok (.aload_n 0, 1) := by decide +kernel
theorem d_TU_init_57 : decode b_TU_init 57 = .ok (.bipush 8, 2) := by decide +kernel
theorem d_TU_init_59 : decode b_TU_init 59 = .ok (.newarray .int, 2) := by decide +kernel
theorem d_TU_init_61 : decode b_TU_init 61 = .ok (.putfield 29, 3) := by decide +kernel
theorem d_TU_init_64 : decode b_TU_init 64 = .ok (.return_, 1) := by decide +kernel
theorem d_TU_play_0 : decode b_TU_play 0 = .ok (.aload_n 0, 1) := by decide +kernel
theorem d_TU_play_1 : decode b_TU_play 1 = .ok (.iload 4, 2) := by decide +kernel
theorem d_TU_play_3 : decode b_TU_play 3 = .ok (.putfield 32, 3) := by decide +kernel
theorem d_TU_play_6 : decode b_TU_play 6 = .ok (.aload_n 0, 1) := by decide +kernel
theorem d_TU_play_7 : decode b_TU_play 7 = .ok (.iload 5, 2) := by decide +kernel
theorem d_TU_play_9 : decode b_TU_play 9 = .ok (.putfield 36, 3) := by decide +kernel
theorem d_TU_play_12 : decode b_TU_play 12 = .ok (.aload_n 0, 1) := by decide +kernel
theorem d_TU_play_13 : decode b_TU_play 13 = .ok (.aload_n 1, 1) := by decide +kernel
theorem d_TU_play_14 : decode b_TU_play 14 = .ok (.iconst 0, 1) := by decide +kernel
theorem d_TU_play_15 : decode b_TU_play 15 = .ok (.invokevirtual 39, 3) := by decide +kernel
theorem d_TU_play_18 : decode b_TU_play 18 = .ok (.aload_n 0, 1) := by decide +kernel
theorem d_TU_play_19 : decode b_TU_play 19 = .ok (.aload_n 2, 1) := by decide +kernel
theorem d_TU_play_20 : decode b_TU_play 20 = .ok (.iconst 1, 1) := by decide +kernel
theorem d_TU_play_21 : decode b_TU_play 21 = .ok (.invokevirtual 39, 3) := by decide +kernel
theorem d_TU_play_24 : decode b_TU_play 24 = .ok (.iconst 0, 1) := by decide +kernel
theorem d_TU_play_25 : decode b_TU_play 25 = .ok (.istore 6, 2) := by decide +kernel
theorem d_TU_play_27 : decode b_TU_play 27 = .ok (.iload 6, 2) := by decide +kernel
theorem d_TU_play_29 : decode b_TU_play 29 = .ok (.bipush 40, 2) := by decide +kernel
theorem d_TU_play_31 : decode b_TU_play 31 = .ok (.if_icmp .gt 33, 3) := by decide +kernel
theorem d_TU_play_34 : decode b_TU_play 34 = .ok (.aload_n 0, 1) := by decide +kernel
theorem d_TU_play_35 : decode b_TU_play 35 = .ok (.getfield 16, 3) := by decide +kernel
theorem d_TU_play_38 : decode b_TU_play 38 = .ok (.iload_n 3, 1) := by decide +kernel
theorem d_TU_play_39 : decode b_TU_play 39 = .ok (.iconst 1, 1) := by decide +kernel
theorem d_TU_play_40 : decode b_TU_play 40 = .ok (.iand, 1) := by decide +kernel
theorem d_TU_play_41 : decode b_TU_play 41 = .ok (.aaload, 1) := by decide +kernel
theorem d_TU_play_42 : decode b_TU_play 42 = .ok (.iload 6, 2) := by decide +kernel
theorem d_TU_play_44 : decode b_TU_play 44 = .ok (.iconst 0, 1) := by decide +kernel
theorem d_TU_play_45 : decode b_TU_play 45 = .ok (.iastore, 1) := by decide +kernel
theorem d_TU_play_46 : decode b_TU_play 46 = .ok (.aload_n 0, 1) := by decide +kernel
theorem d_TU_play_47 : decode b_TU_play 47 = .ok (.getfield 19, 3) := by decide +kernel
theorem d_TU_play_50 : decode b_TU_play 50 = .ok (.iload_n 3, 1) := by decide +kernel
theorem d_TU_play_51 : decode b_TU_play 51 = .ok (.iconst 1, 1) := by decide +kernel
theorem d_TU_play_52 : decode b_TU_play 52 = .ok (.iand, 1) := by decide +kernel
theorem d_TU_play_53 : decode b_TU_play 53 = .ok (.aaload, 1) := by decide +kernel
theorem d_TU_play_54 : decode b_TU_play 54 = .ok (.iload 6, 2) := by decide +kernel
theorem d_TU_play_56 : decode b_TU_play 56 = .ok (.iconst 0, 1) := by decide +kernel
theorem d_TU_play_57 : decode b_TU_play 57 = .ok (.iastore, 1) := by decide +kernel
theorem d_TU_play_58 : decode b_TU_play 58 = .ok (.iinc 6 1, 3) := by decide +kernel
theorem d_TU_play_61 : decode b_TU_play 61 = .ok (.goto (-34), 3) := by decide +kernel
theorem d_TU_play_64 : decode b_TU_play 64 = .ok (.iload_n 3, 1) := by decide +kernel
theorem d_TU_play_65 : decode b_TU_play 65 = .ok (.iconst 1, 1) := by decide +kernel
theorem d_TU_play_66 : decode b_TU_play 66 = .ok (.isub, 1) := by decide +kernel
theorem d_TU_play_67 : decode b_TU_play 67 = .ok (.istore 6, 2) := by decide +kernel
theorem d_TU_play_69 : decode b_TU_play 69 = .ok (.iload 6, 2) := by decide +kernel
theorem d_TU_play_71 : decode b_TU_play 71 = .ok (.iconst 1, 1) := by decide +kernel
theorem d_TU_play_72 : decode b_TU_play 72 = .ok (.if_icmp .lt 42, 3) := by decide +kernel
theorem d_TU_play_75 : decode b_TU_play 75 = .ok (.iconst 1, 1) := by decide +kernel
theorem d_TU_play_76 : decode b_TU_play 76 = .ok (.istore 7, 2) := by decide +kernel
theorem d_TU_play_78 : decode b_TU_play 78 = .ok (.iload 7, 2) := by decide +kernel
theorem d_TU_play_80 : decode b_TU_play 80 = .ok (.aload_n 0, 1) := by decide +kernel
theorem d_TU_play_81 : decode b_TU_play 81 = .ok (.getfield 25, 3) := by decide +kernel
theorem d_TU_play_84 : decode b_TU_play 84 = .ok (.iload 6, 2) := by decide +kernel
theorem d_TU_play_86 : decode b_TU_play 86 = .ok (.iconst 1, 1) := by decide +kernel
theorem d_TU_play_87 : decode b_TU_play 87 = .ok (.iadd, 1) := by decide +kernel
theorem d_TU_play_88 : decode b_TU_play 88 = .ok (.iconst 1, 1) := by decide +kernel
theorem d_TU_play_89 : decode b_TU_play 89 = .ok (.iand, 1) := by decide +kernel
theorem d_TU_play_90 : decode b_TU_play 90 = .ok (.iaload, 1) := by decide +kernel
theorem d_TU_play_91 : decode b_TU_play 91 = .ok (.if_icmp .gt 17, 3) := by decide +kernel
theorem d_TU_play_94 : decode b_TU_play 94 = .ok (.aload_n 0, 1) := by decide +kernel
theorem d_TU_play_95 : decode b_TU_play 95 = .ok (.iload 6, 2) := by decide +kernel
theorem d_TU_play_97 : decode b_TU_play 97 = .ok (.iload 7, 2) := by decide +kernel
theorem d_TU_play_99 : decode b_TU_play 99 = .ok (.invokevirtual 43, 3) := by decide +kernel
theorem d_TU_play_102 : decode b_TU_play 102 = .ok (.iinc 7 1, 3) := by decide +kernel
theorem d_TU_play_105 : decode b_TU_play 105 = .ok (.goto (-27), 3) := by decide +kernel
theorem d_TU_play_108 : decode b_TU_play 108 = .ok (.iinc 6 (-1), 3) := by decide +kernel
theorem d_TU_play_111 : decode b_TU_play 111 = .ok (.goto (-42), 3) := by decide +kernel
theorem d_TU_play_114 : decode b_TU_play 114 = .ok (.aload_n 0, 1) := by decide +kernel
theorem d_TU_play_115 : decode b_TU_play 115 = .ok (.iload_n 3, 1) := by decide +kernel
theorem d_TU_play_116 : decode b_TU_play 116 = .ok (.invokevirtual 47, 3) := by decide +kernel
theorem d_TU_play_119 : decode b_TU_play 119 = .ok (.return_, 1) := by decide +kernel
theorem d_TU_weighAll_0 : decode b_TU_weighAll 0 = .ok (.aload_n 0, 1) := by decide +kernel
theorem d_TU_weighAll_1 : decode b_TU_weighAll 1 = .ok (.getfield 25, 3) := by decide +kernel
theorem d_TU_weighAll_4 : decode b_TU_weighAll 4 = .ok (.iload_n 2, 1) := by decide +kernel
theorem d_TU_weighAll_5 : decode b_TU_weighAll 5 = .ok (.aload_n 1, 1) := by decide +kernel
theorem d_TU_weighAll_6 : decode b_TU_weighAll 6 = .ok (.getfield 51, 3) := by decide +kernel
theorem d_TU_weighAll_9 : decode b_TU_weighAll 9 = .ok (.bipush 40, 2) := by decide +kernel
theorem d_TU_weighAll_11 : decode b_TU_weighAll 11 = .ok (.invokestatic 55, 3) := by decide +kernel
theorem d_TU_weighAll_14 : decode b_TU_weighAll 14 = .ok (.iastore, 1) := by decide +kernel
theorem d_TU_weighAll_15 : decode b_TU_weighAll 15 = .ok (.iconst 1, 1) := by decide +kernel
theorem d_TU_weighAll_16 : decode b_TU_weighAll 16 = .ok (.istore_n 3, 1) := by decide +kernel
theorem d_TU_weighAll_17 : decode b_TU_weighAll 17 = .ok (.iload_n 3, 1) := by decide +kernel
theorem d_TU_weighAll_18 : decode b_TU_weighAll 18 = .ok (.aload_n 0, 1) := by decide +kernel
theorem d_TU_weighAll_19 : decode b_TU_weighAll 19 = .ok (.getfield 25, 3) := by decide +kernel
theorem d_TU_weighAll_22 : decode b_TU_weighAll 22 = .ok (.iload_n 2, 1) := by decide +kernel
theorem d_TU_weighAll_23 : decode b_TU_weighAll 23 = .ok (.iaload, 1) := by decide +kernel
theorem d_TU_weighAll_24 : decode b_TU_weighAll 24 = .ok (.if_icmp .gt 22, 3) := by decide +kernel
theorem d_TU_weighAll_27 : decode b_TU_weighAll 27 = .ok (.aload_n 0, 1) := by decide +kernel
theorem d_TU_weighAll_28 : decode b_TU_weighAll 28 = .ok (.getfield 22, 3) := by decide +kernel
theorem d_TU_weighAll_31 : decode b_TU_weighAll 31 = .ok (.iload_n 2, 1) := by decide +kernel
theorem d_TU_weighAll_32 : decode b_TU_weighAll 32 = .ok (.aaload, 1) := by decide +kernel
theorem d_TU_weighAll_33 : decode b_TU_weighAll 33 = .ok (.iload_n 3, 1) := by decide +kernel
theorem d_TU_weighAll_34 : decode b_TU_weighAll 34 = .ok (.aload_n 1, 1) := by decide +kernel
theorem d_TU_weighAll_35 : decode b_TU_weighAll 35 = .ok (.iload_n 3, 1) := by decide +kernel
theorem d_TU_weighAll_36 : decode b_TU_weighAll 36 = .ok (.invokevirtual 61, 3) := by decide +kernel
theorem d_TU_weighAll_39 : decode b_TU_weighAll 39 = .ok (.iastore, 1) := by decide +kernel
theorem d_TU_weighAll_40 : decode b_TU_weighAll 40 = .ok (.iinc 3 1, 3) := by decide +kernel
theorem d_TU_weighAll_43 : decode b_TU_weighAll 43 = .ok (.goto (-26), 3) := by decide +kernel
theorem d_TU_weighAll_46 : decode b_TU_weighAll 46 = .ok (.return_, 1) := by decide +kernel
theorem d_TU_choose_0 : decode b_TU_choose 0 = .ok (.iload_n 1, 1) := by decide +kernel
theorem d_TU_choose_1 : decode b_TU_choose 1 = .ok (.iconst 1, 1) := by decide +kernel
theorem d_TU_choose_2 : decode b_TU_choose 2 = .ok (.iand, 1) := by decide +kernel
theorem d_TU_choose_3 : decode b_TU_choose 3 = .ok (.istore_n 3, 1) := by decide +kernel
theorem d_TU_choose_4 : decode b_TU_choose 4 = .ok (.iload_n 3, 1) := by decide +kernel
theorem d_TU_choose_5 : decode b_TU_choose 5 = .ok (.iconst 1, 1) := by decide +kernel
theorem d_TU_choose_6 : decode b_TU_choose 6 = .ok (.ixor, 1) := by decide +kernel
theorem d_TU_choose_7 : decode b_TU_choose 7 = .ok (.istore 4, 2) := by decide +kernel
theorem d_TU_choose_9 : decode b_TU_choose 9 = .ok (.aload_n 0, 1) := by decide +kernel
theorem d_TU_choose_10 : decode b_TU_choose 10 = .ok (.getfield 22, 3) := by decide +kernel
theorem d_TU_choose_13 : decode b_TU_choose 13 = .ok (.iload 4, 2) := by decide +kernel
theorem d_TU_choose_15 : decode b_TU_choose 15 = .ok (.aaload, 1) := by decide +kernel
theorem d_TU_choose_16 : decode b_TU_choose 16 = .ok (.iload_n 2, 1) := by decide +kernel
theorem d_TU_choose_17 : decode b_TU_choose 17 = .ok (.iaload, 1) := by decide +kernel
theorem d_TU_choose_18 : decode b_TU_choose 18 = .ok (.istore 5, 2) := by decide +kernel
theorem d_TU_choose_20 : decode b_TU_choose 20 = .ok (.aload_n 0, 1) := by decide +kernel
theorem d_TU_choose_21 : decode b_TU_choose 21 = .ok (.getfield 32, 3) := by decide +kernel
theorem d_TU_choose_24 : decode b_TU_choose 24 = .ok (.istore 6, 2) := by decide +kernel
theorem d_TU_choose_26 : decode b_TU_choose 26 = .ok (.iconst 0, 1) := by decide +kernel
theorem d_TU_choose_27 : decode b_TU_choose 27 = .ok (.istore 7, 2) := by decide +kernel
theorem d_TU_choose_29 : decode b_TU_choose 29 = .ok (.iconst 1, 1) := by decide +kernel
theorem d_TU_choose_30 : decode b_TU_choose 30 = .ok (.istore 8, 2) := by decide +kernel
theorem d_TU_choose_32 : decode b_TU_choose 32 = .ok (.iload 8, 2) := by decide +kernel
theorem d_TU_choose_34 : decode b_TU_choose 34 = .ok (.aload_n 0, 1) := by decide +kernel
theorem d_TU_choose_35 : decode b_TU_choose 35 = .ok (.getfield 25, 3) := by decide +kernel
theorem d_TU_choose_38 : decode b_TU_choose 38 = .ok (.iload_n 3, 1) := by decide +kernel
theorem d_TU_choose_39 : decode b_TU_choose 39 = .ok (.iaload, 1) := by decide +kernel
theorem d_TU_choose_40 : decode b_TU_choose 40 = .ok (.if_icmp .gt 55, 3) := by decide +kernel
theorem d_TU_choose_43 : decode b_TU_choose 43 = .ok (.aload_n 0, 1) := by decide +kernel
theorem d_TU_choose_44 : decode b_TU_choose 44 = .ok (.getfield 36, 3) := by decide +kernel
theorem d_TU_choose_47 : decode b_TU_choose 47 = .ok (.aload_n 0, 1) := by decide +kernel
theorem d_TU_choose_48 : decode b_TU_choose 48 = .ok (.getfield 22, 3) := by decide +kernel
theorem d_TU_choose_51 : decode b_TU_choose 51 = .ok (.iload_n 3, 1) := by decide +kernel
theorem d_TU_choose_52 : decode b_TU_choose 52 = .ok (.aaload, 1) := by decide +kernel
theorem d_TU_choose_53 : decode b_TU_choose 53 = .ok (.iload 8, 2) := by decide +kernel
theorem d_TU_choose_55 : decode b_TU_choose 55 = .ok (.iaload, 1) := by decide +kernel
theorem d_TU_choose_56 : decode b_TU_choose 56 = .ok (.iload 5, 2) := by decide +kernel
theorem d_TU_choose_58 : decode b_TU_choose 58 = .ok (.invokestatic 65, 3) := by decide +kernel
theorem d_TU_choose_61 : decode b_TU_choose 61 = .ok (.aload_n 0, 1) := by decide +kernel
theorem d_TU_choose_62 : decode b_TU_choose 62 = .ok (.getfield 19, 3) := by decide +kernel
theorem d_TU_choose_65 : decode b_TU_choose 65 = .ok (.iload 4, 2) := by decide +kernel
theorem d_TU_choose_67 : decode b_TU_choose 67 = .ok (.aaload, 1) := by decide +kernel
theorem d_TU_choose_68 : decode b_TU_choose 68 = .ok (.iload 8, 2) := by decide +kernel
theorem d_TU_choose_70 : decode b_TU_choose 70 = .ok (.iaload, 1) := by decide +kernel
theorem d_TU_choose_71 : decode b_TU_choose 71 = .ok (.iadd, 1) := by decide +kernel
theorem d_TU_choose_72 : decode b_TU_choose 72 = .ok (.istore 9, 2) := by decide +kernel
theorem d_TU_choose_74 : decode b_TU_choose 74 = .ok (.iload 9, 2) := by decide +kernel
theorem d_TU_choose_76 : decode b_TU_choose 76 = .ok (.iload 6, 2) := by decide +kernel
theorem d_TU_choose_78 : decode b_TU_choose 78 = .ok (.if_icmp .ge 11, 3) := by decide +kernel
theorem d_TU_choose_81 : decode b_TU_choose 81 = .ok (.iload 9, 2) := by decide +kernel
theorem d_TU_choose_83 : decode b_TU_choose 83 = .ok (.istore 6, 2) := by decide +kernel
theorem d_TU_choose_85 : decode b_TU_choose 85 = .ok (.iload 8, 2) := by decide +kernel
theorem d_TU_choose_87 : decode b_TU_choose 87 = .ok (.istore 7, 2) := by decide +kernel
theorem d_TU_choose_89 : decode b_TU_choose 89 = .ok (.iinc 8 1, 3) := by decide +kernel
theorem d_TU_choose_92 : decode b_TU_choose 92 = .ok (.goto (-60), 3) := by decide +kernel
theorem d_TU_choose_95 : decode b_TU_choose 95 = .ok (.aload_n 0, 1) := by decide +kernel
theorem d_TU_choose_96 : decode b_TU_choose 96 = .ok (.getfield 11, 3) := by decide +kernel
theorem d_TU_choose_99 : decode b_TU_choose 99 = .ok (.iload_n 1, 1) := by decide +kernel
theorem d_TU_choose_100 : decode b_TU_choose 100 = .ok (.aaload, 1) := by decide +kernel
theorem d_TU_choose_101 : decode b_TU_choose 101 = .ok (.iload_n 2, 1) := by decide +kernel
theorem d_TU_choose_102 : decode b_TU_choose 102 = .ok (.iload 7, 2) := by decide +kernel
theorem d_TU_choose_104 : decode b_TU_choose 104 = .ok (.iastore, 1) := by decide +kernel
theorem d_TU_choose_105 : decode b_TU_choose 105 = .ok (.aload_n 0, 1) := by decide +kernel
theorem d_TU_choose_106 : decode b_TU_choose 106 = .ok (.getfield 16, 3) := by decide +kernel
theorem d_TU_choose_109 : decode b_TU_choose 109 = .ok (.iload_n 3, 1) := by decide +kernel
theorem d_TU_choose_110 : decode b_TU_choose 110 = .ok (.aaload, 1) := by decide +kernel
theorem d_TU_choose_111 : decode b_TU_choose 111 = .ok (.iload_n 2, 1) := by decide +kernel
theorem d_TU_choose_112 : decode b_TU_choose 112 = .ok (.iload 6, 2) := by decide +kernel
theorem d_TU_choose_114 : decode b_TU_choose 114 = .ok (.iastore, 1) := by decide +kernel
theorem d_TU_choose_115 : decode b_TU_choose 115 = .ok (.aload_n 0, 1) := by decide +kernel
theorem d_TU_choose_116 : decode b_TU_choose 116 = .ok (.getfield 19, 3) := by decide +kernel
theorem d_TU_choose_119 : decode b_TU_choose 119 = .ok (.iload_n 3, 1) := by decide +kernel
theorem d_TU_choose_120 : decode b_TU_choose 120 = .ok (.aaload, 1) := by decide +kernel
theorem d_TU_choose_121 : decode b_TU_choose 121 = .ok (.iload_n 2, 1) := by decide +kernel
theorem d_TU_choose_122 : decode b_TU_choose 122 = .ok (.iload 7, 2) := by decide +kernel
theorem d_TU_choose_124 : decode b_TU_choose 124 = .ok (.ifCond .ne 7, 3) := by decide +kernel
theorem d_TU_choose_127 : decode b_TU_choose 127 = .ok (.iconst 0, 1) := by decide +kernel
theorem d_TU_choose_128 : decode b_TU_choose 128 = .ok (.goto 32, 3) := by decide +kernel
theorem d_TU_choose_131 : decode b_TU_choose 131 = .ok (.aload_n 0, 1) := by decide +kernel
theorem d_TU_choose_132 : decode b_TU_choose 132 = .ok (.getfield 36, 3) := by decide +kernel
theorem d_TU_choose_135 : decode b_TU_choose 135 = .ok (.iload 5, 2) := by decide +kernel
theorem d_TU_choose_137 : decode b_TU_choose 137 = .ok (.aload_n 0, 1) := by decide +kernel
theorem d_TU_choose_138 : decode b_TU_choose 138 = .ok (.getfield 22, 3) := by decide +kernel
theorem d_TU_choose_141 : decode b_TU_choose 141 = .ok (.iload_n 3, 1) := by decide +kernel
theorem d_TU_choose_142 : decode b_TU_choose 142 = .ok (.aaload, 1) := by decide +kernel
theorem d_TU_choose_143 : decode b_TU_choose 143 = .ok (.iload 7, 2) := by decide +kernel
theorem d_TU_choose_145 : decode b_TU_choose 145 = .ok (.iaload, 1) := by decide +kernel
theorem d_TU_choose_146 : decode b_TU_choose 146 = .ok (.invokestatic 65, 3) := by decide +kernel
theorem d_TU_choose_149 : decode b_TU_choose 149 = .ok (.aload_n 0, 1) := by decide +kernel
theorem d_TU_choose_150 : decode b_TU_choose 150 = .ok (.getfield 16, 3) := by decide +kernel
theorem d_TU_choose_153 : decode b_TU_choose 153 = .ok (.iload 4, 2) := by decide +kernel
theorem d_TU_choose_155 : decode b_TU_choose 155 = .ok (.aaload, 1) := by decide +kernel
theorem d_TU_choose_156 : decode b_TU_choose 156 = .ok (.iload 7, 2) := by decide +kernel
theorem d_TU_choose_158 : decode b_TU_choose 158 = .ok (.iaload, 1) := by decide +kernel
theorem d_TU_choose_159 : decode b_TU_choose 159 = .ok (.iadd, 1) := by decide +kernel
theorem d_TU_choose_160 : decode b_TU_choose 160 = .ok (.iastore, 1) := by decide +kernel
theorem d_TU_choose_161 : decode b_TU_choose 161 = .ok (.return_, 1) := by decide +kernel
theorem d_TU_write_0 : decode b_TU_write 0 = .ok (.iconst 1, 1) := by decide +kernel
theorem d_TU_write_1 : decode b_TU_write 1 = .ok (.istore_n 2, 1) := by decide +kernel
theorem d_TU_write_2 : decode b_TU_write 2 = .ok (.iconst 2, 1) := by decide +kernel
theorem d_TU_write_3 : decode b_TU_write 3 = .ok (.istore_n 3, 1) := by decide +kernel
theorem d_TU_write_4 : decode b_TU_write 4 = .ok (.iload_n 3, 1) := by decide +kernel
theorem d_TU_write_5 : decode b_TU_write 5 = .ok (.aload_n 0, 1) := by decide +kernel
theorem d_TU_write_6 : decode b_TU_write 6 = .ok (.getfield 25, 3) := by decide +kernel
theorem d_TU_write_9 : decode b_TU_write 9 = .ok (.iconst 0, 1) := by decide +kernel
theorem d_TU_write_10 : decode b_TU_write 10 = .ok (.iaload, 1) := by decide +kernel
theorem d_TU_write_11 : decode b_TU_write 11 = .ok (.if_icmp .gt 30, 3) := by decide +kernel
theorem d_TU_write_14 : decode b_TU_write 14 = .ok (.aload_n 0, 1) := by decide +kernel
theorem d_TU_write_15 : decode b_TU_write 15 = .ok (.getfield 19, 3) := by decide +kernel
theorem d_TU_write_18 : decode b_TU_write 18 = .ok (.iconst 1, 1) := by decide +kernel
theorem d_TU_write_19 : decode b_TU_write 19 = .ok (.aaload, 1) := by decide +kernel
theorem d_TU_write_20 : decode b_TU_write 20 = .ok (.iload_n 3, 1) := by decide +kernel
theorem d_TU_write_21 : decode b_TU_write 21 = .ok (.iaload, 1) := by decide +kernel
theorem d_TU_write_22 : decode b_TU_write 22 = .ok (.aload_n 0, 1) := by decide +kernel
theorem d_TU_write_23 : decode b_TU_write 23 = .ok (.getfield 19, 3) := by decide +kernel
theorem d_TU_write_26 : decode b_TU_write 26 = .ok (.iconst 1, 1) := by decide +kernel
theorem d_TU_write_27 : decode b_TU_write 27 = .ok (.aaload, 1) := by decide +kernel
theorem d_TU_write_28 : decode b_TU_write 28 = .ok (.iload_n 2, 1) := by decide +kernel
theorem d_TU_write_29 : decode b_TU_write 29 = .ok (.iaload, 1) := by decide +kernel
theorem d_TU_write_30 : decode b_TU_write 30 = .ok (.if_icmp .ge 5, 3) := by decide +kernel
theorem d_TU_write_33 : decode b_TU_write 33 = .ok (.iload_n 3, 1) := by decide +kernel
theorem d_TU_write_34 : decode b_TU_write 34 = .ok (.istore_n 2, 1) := by decide +kernel
theorem d_TU_write_35 : decode b_TU_write 35 = .ok (.iinc 3 1, 3) := by decide +kernel
theorem d_TU_write_38 : decode b_TU_write 38 = .ok (.goto (-34), 3) := by decide +kernel
theorem d_TU_write_41 : decode b_TU_write 41 = .ok (.aload_n 0, 1) := by decide +kernel
theorem d_TU_write_42 : decode b_TU_write 42 = .ok (.aload_n 0, 1) := by decide +kernel
theorem d_TU_write_43 : decode b_TU_write 43 = .ok (.getfield 19, 3) := by decide +kernel
theorem d_TU_write_46 : decode b_TU_write 46 = .ok (.iconst 1, 1) := by decide +kernel
theorem d_TU_write_47 : decode b_TU_write 47 = .ok (.aaload, 1) := by decide +kernel
theorem d_TU_write_48 : decode b_TU_write 48 = .ok (.iload_n 2, 1) := by decide +kernel
theorem d_TU_write_49 : decode b_TU_write 49 = .ok (.iaload, 1) := by decide +kernel
theorem d_TU_write_50 : decode b_TU_write 50 = .ok (.putfield 69, 3) := by decide +kernel
theorem d_TU_write_53 : decode b_TU_write 53 = .ok (.aload_n 0, 1) := by decide +kernel
theorem d_TU_write_54 : decode b_TU_write 54 = .ok (.aload_n 0, 1) := by decide +kernel
theorem d_TU_write_55 : decode b_TU_write 55 = .ok (.getfield 16, 3) := by decide +kernel
theorem d_TU_write_58 : decode b_TU_write 58 = .ok (.iconst 1, 1) := by decide +kernel
theorem d_TU_write_59 : decode b_TU_write 59 = .ok (.aaload, 1) := by decide +kernel
theorem d_TU_write_60 : decode b_TU_write 60 = .ok (.iload_n 2, 1) := by decide +kernel
theorem d_TU_write_61 : decode b_TU_write 61 = .ok (.iaload, 1) := by decide +kernel
theorem d_TU_write_62 : decode b_TU_write 62 = .ok (.putfield 72, 3) := by decide +kernel
theorem d_TU_write_65 : decode b_TU_write 65 = .ok (.aload_n 0, 1) := by decide +kernel
theorem d_TU_write_66 : decode b_TU_write 66 = .ok (.getfield 29, 3) := by decide +kernel
theorem d_TU_write_69 : decode b_TU_write 69 = .ok (.iconst 0, 1) := by decide +kernel
theorem d_TU_write_70 : decode b_TU_write 70 = .ok (.iload_n 2, 1) := by decide +kernel
theorem d_TU_write_71 : decode b_TU_write 71 = .ok (.iastore, 1) := by decide +kernel
theorem d_TU_write_72 : decode b_TU_write 72 = .ok (.aload_n 0, 1) := by decide +kernel
theorem d_TU_write_73 : decode b_TU_write 73 = .ok (.iconst 1, 1) := by decide +kernel
theorem d_TU_write_74 : decode b_TU_write 74 = .ok (.putfield 75, 3) := by decide +kernel
theorem d_TU_write_77 : decode b_TU_write 77 = .ok (.iconst 1, 1) := by decide +kernel
theorem d_TU_write_78 : decode b_TU_write 78 = .ok (.istore_n 3, 1) := by decide +kernel
theorem d_TU_write_79 : decode b_TU_write 79 = .ok (.iload_n 3, 1) := by decide +kernel
theorem d_TU_write_80 : decode b_TU_write 80 = .ok (.iload_n 1, 1) := by decide +kernel
theorem d_TU_write_81 : decode b_TU_write 81 = .ok (.if_icmp .ge 47, 3) := by decide +kernel
theorem d_TU_write_84 : decode b_TU_write 84 = .ok (.iload_n 2, 1) := by decide +kernel
theorem d_TU_write_85 : decode b_TU_write 85 = .ok (.ifCond .eq 43, 3) := by decide +kernel
theorem d_TU_write_88 : decode b_TU_write 88 = .ok (.aload_n 0, 1) := by decide +kernel
theorem d_TU_write_89 : decode b_TU_write 89 = .ok (.getfield 11, 3) := by decide +kernel
theorem d_TU_write_92 : decode b_TU_write 92 = .ok (.iload_n 3, 1) := by decide +kernel
theorem d_TU_write_93 : decode b_TU_write 93 = .ok (.aaload, 1) := by decide +kernel
theorem d_TU_write_94 : decode b_TU_write 94 = .ok (.iload_n 2, 1) := by decide +kernel
theorem d_TU_write_95 : decode b_TU_write 95 = .ok (.iaload, 1) := by decide +kernel
theorem d_TU_write_96 : decode b_TU_write 96 = .ok (.istore_n 2, 1) := by decide +kernel
theorem d_TU_write_97 : decode b_TU_write 97 = .ok (.aload_n 0, 1) := by decide +kernel
theorem d_TU_write_98 : decode b_TU_write 98 = .ok (.getfield 29, 3) := by decide +kernel
theorem d_TU_write_101 : decode b_TU_write 101 = .ok (.iload_n 3, 1) := by decide +kernel
theorem d_TU_write_102 : decode b_TU_write 102 = .ok (.iload_n 2, 1) := by decide +kernel
theorem d_TU_write_103 : decode b_TU_write 103 = .ok (.iastore, 1) := by decide +kernel
theorem d_TU_write_104 : decode b_TU_write 104 = .ok (.aload_n 0, 1) := by decide +kernel
theorem d_TU_write_105 : decode b_TU_write 105 = .ok (.dup, 1) := by decide +kernel
theorem d_TU_write_106 : decode b_TU_write 106 = .ok (.getfield 75, 3) := by decide +kernel
theorem d_TU_write_109 : decode b_TU_write 109 = .ok (.iload_n 2, 1) := by decide +kernel
theorem d_TU_write_110 : decode b_TU_write 110 = .ok (.ifCond .ne 7, 3) := by decide +kernel
theorem d_TU_write_113 : decode b_TU_write 113 = .ok (.iconst 0, 1) := by decide +kernel
theorem d_TU_write_114 : decode b_TU_write 114 = .ok (.goto 4, 3) := by decide +kernel
theorem d_TU_write_117 : decode b_TU_write 117 = .ok (.iconst 1, 1) := by decide +kernel
theorem d_TU_write_118 : decode b_TU_write 118 = .ok (.iadd, 1) := by decide +kernel
theorem d_TU_write_119 : decode b_TU_write 119 = .ok (.putfield 75, 3) := by decide +kernel
theorem d_TU_write_122 : decode b_TU_write 122 = .ok (.iinc 3 1, 3) := by decide +kernel
theorem d_TU_write_125 : decode b_TU_write 125 = .ok (.goto (-46), 3) := by decide +kernel
theorem d_TU_write_128 : decode b_TU_write 128 = .ok (.return_, 1) := by decide +kernel
theorem d_WR_init_0 : decode b_WR_init 0 = .ok (.aload_n 0, 1) := by decide +kernel
theorem d_WR_init_1 : decode b_WR_init 1 = .ok (.invokespecial 3, 3) := by decide +kernel
theorem d_WR_init_4 : decode b_WR_init 4 = .ok (.aload_n 0, 1) := by decide +kernel
theorem d_WR_init_5 : decode b_WR_init 5 = .ok (.iload_n 1, 1) := by decide +kernel
theorem d_WR_init_6 : decode b_WR_init 6 = .ok (.putfield 9, 3) := by decide +kernel
theorem d_WR_init_9 : decode b_WR_init 9 = .ok (.aload_n 0, 1) := by decide +kernel
theorem d_WR_init_10 : decode b_WR_init 10 = .ok (.iload_n 2, 1) := by decide +kernel
theorem d_WR_init_11 : decode b_WR_init 11 = .ok (.putfield 15, 3) := by decide +kernel
theorem d_WR_init_14 : decode b_WR_init 14 = .ok (.return_, 1) := by decide +kernel
theorem d_WR_kind_0 : decode b_WR_kind 0 = .ok (.iconst 0, 1) := by decide +kernel
theorem d_WR_kind_1 : decode b_WR_kind 1 = .ok (.ireturn, 1) := by decide +kernel
theorem d_WR_shows_0 : decode b_WR_shows 0 = .ok (.iload_n 1, 1) := by decide +kernel
theorem d_WR_shows_1 : decode b_WR_shows 1 = .ok (.ireturn, 1) := by decide +kernel
theorem d_WR_telling_0 : decode b_WR_telling 0 = .ok (.aload_n 0, 1) := by decide +kernel
theorem d_WR_telling_1 : decode b_WR_telling 1 = .ok (.aload_n 1, 1) := by decide +kernel
theorem d_WR_telling_2 : decode b_WR_telling 2 = .ok (.invokevirtual 18, 3) := by decide +kernel
theorem d_WR_telling_5 : decode b_WR_telling 5 = .ok (.ireturn, 1) := by decide +kernel
theorem d_WR_writersTelling_0 : decode b_WR_writersTelling 0 = .ok (.aload_n 1, 1) := by decide +kernel
theorem d_WR_writersTelling_1 : decode b_WR_writersTelling 1 = .ok (.iconst 1, 1) := by decide +kernel
theorem d_WR_writersTelling_2 : decode b_WR_writersTelling 2 = .ok (.invokevirtual 22, 3) := by decide +kernel
theorem d_WR_writersTelling_5 : decode b_WR_writersTelling 5 = .ok (.aload_n 0, 1) := by decide +kernel
theorem d_WR_writersTelling_6 : decode b_WR_writersTelling 6 = .ok (.getfield 15, 3) := by decide +kernel
theorem d_WR_writersTelling_9 : decode b_WR_writersTelling 9 = .ok (.ireturn, 1) := by decide +kernel
theorem d_WR_greeting_0 : decode b_WR_greeting 0 = .ok (.aload_n 1, 1) := by decide +kernel
theorem d_WR_greeting_1 : decode b_WR_greeting 1 = .ok (.iconst 4, 1) := by decide +kernel
theorem d_WR_greeting_2 : decode b_WR_greeting 2 = .ok (.invokevirtual 22, 3) := by decide +kernel
theorem d_WR_greeting_5 : decode b_WR_greeting 5 = .ok (.aload_n 0, 1) := by decide +kernel
theorem d_WR_greeting_6 : decode b_WR_greeting 6 = .ok (.getfield 9, 3) := by decide +kernel
theorem d_WR_greeting_9 : decode b_WR_greeting 9 = .ok (.ireturn, 1) := by decide +kernel
theorem d_law_0 : decode code 0 = .ok (.new 7, 3) := by decide +kernel
theorem d_law_3 : decode code 3 = .ok (.dup, 1) := by decide +kernel
theorem d_law_4 : decode code 4 = .ok (.invokespecial 9, 3) := by decide +kernel
theorem d_law_7 : decode code 7 = .ok (.astore_n 1, 1) := by decide +kernel
theorem d_law_8 : decode code 8 = .ok (.new 10, 3) := by decide +kernel
theorem d_law_11 : decode code 11 = .ok (.dup, 1) := by decide +kernel
theorem d_law_12 : decode code 12 = .ok (.invokespecial 12, 3) := by decide +kernel
theorem d_law_15 : decode code 15 = .ok (.astore_n 2, 1) := by decide +kernel
theorem d_law_16 : decode code 16 = .ok (.iconst 0, 1) := by decide +kernel
theorem d_law_17 : decode code 17 = .ok (.istore_n 3, 1) := by decide +kernel
theorem d_law_18 : decode code 18 = .ok (.iload_n 3, 1) := by decide +kernel
theorem d_law_19 : decode code 19 = .ok (.aload_n 0, 1) := by decide +kernel
theorem d_law_20 : decode code 20 = .ok (.arraylength, 1) := by decide +kernel
theorem d_law_21 : decode code 21 = .ok (.bipush 8, 2) := by decide +kernel
theorem d_law_23 : decode code 23 = .ok (.isub, 1) := by decide +kernel
theorem d_law_24 : decode code 24 = .ok (.if_icmp .gt 1278, 3) := by decide +kernel
theorem d_law_27 : decode code 27 = .ok (.aload_n 0, 1) := by decide +kernel
theorem d_law_28 : decode code 28 = .ok (.iload_n 3, 1) := by decide +kernel
theorem d_law_29 : decode code 29 = .ok (.iaload, 1) := by decide +kernel
theorem d_law_30 : decode code 30 = .ok (.bipush 31, 2) := by decide +kernel
theorem d_law_32 : decode code 32 = .ok (.iand, 1) := by decide +kernel
theorem d_law_33 : decode code 33 = .ok (.tableswitch 1263 0 28 #[131, 184, 217, 250, 273, 326, 369, 402, 425, 458, 501, 534, 557, 600, 663, 726, 813, 856, 919, 962, 985, 1028, 1072, 1135, 1158, 1181, 1214, 1227, 1240], 131) := by decide +kernel
theorem d_law_164 : decode code 164 = .ok (.aload_n 1, 1) := by decide +kernel
theorem d_law_165 : decode code 165 = .ok (.aload_n 0, 1) := by decide +kernel
theorem d_law_166 : decode code 166 = .ok (.iload_n 3, 1) := by decide +kernel
theorem d_law_167 : decode code 167 = .ok (.iconst 1, 1) := by decide +kernel
theorem d_law_168 : decode code 168 = .ok (.iadd, 1) := by decide +kernel
theorem d_law_169 : decode code 169 = .ok (.iaload, 1) := by decide +kernel
theorem d_law_170 : decode code 170 = .ok (.aload_n 0, 1) := by decide +kernel
theorem d_law_171 : decode code 171 = .ok (.iload_n 3, 1) := by decide +kernel
theorem d_law_172 : decode code 172 = .ok (.iconst 2, 1) := by decide +kernel
theorem d_law_173 : decode code 173 = .ok (.iadd, 1) := by decide +kernel
theorem d_law_174 : decode code 174 = .ok (.iaload, 1) := by decide +kernel
theorem d_law_175 : decode code 175 = .ok (.aload_n 0, 1) := by decide +kernel
theorem d_law_176 : decode code 176 = .ok (.iload_n 3, 1) := by decide +kernel
theorem d_law_177 : decode code 177 = .ok (.iconst 3, 1) := by decide +kernel
theorem d_law_178 : decode code 178 = .ok (.iadd, 1) := by decide +kernel
theorem d_law_179 : decode code 179 = .ok (.iaload, 1) := by decide +kernel
theorem d_law_180 : decode code 180 = .ok (.aload_n 0, 1) := by decide +kernel
theorem d_law_181 : decode code 181 = .ok (.iload_n 3, 1) := by decide +kernel
theorem d_law_182 : decode code 182 = .ok (.iconst 4, 1) := by decide +kernel
theorem d_law_183 : decode code 183 = .ok (.iadd, 1) := by decide +kernel
theorem d_law_184 : decode code 184 = .ok (.iaload, 1) := by decide +kernel
theorem d_law_185 : decode code 185 = .ok (.invokevirtual 13, 3) := by decide +kernel
theorem d_law_188 : decode code 188 = .ok (.aload_n 2, 1) := by decide +kernel
theorem d_law_189 : decode code 189 = .ok (.aload_n 0, 1) := by decide +kernel
theorem d_law_190 : decode code 190 = .ok (.iload_n 3, 1) := by decide +kernel
theorem d_law_191 : decode code 191 = .ok (.iconst 1, 1) := by decide +kernel
theorem d_law_192 : decode code 192 = .ok (.iadd, 1) := by decide +kernel
theorem d_law_193 : decode code 193 = .ok (.iaload, 1) := by decide +kernel
theorem d_law_194 : decode code 194 = .ok (.aload_n 0, 1) := by decide +kernel
theorem d_law_195 : decode code 195 = .ok (.iload_n 3, 1) := by decide +kernel
theorem d_law_196 : decode code 196 = .ok (.iconst 2, 1) := by decide +kernel
theorem d_law_197 : decode code 197 = .ok (.iadd, 1) := by decide +kernel
theorem d_law_198 : decode code 198 = .ok (.iaload, 1) := by decide +kernel
theorem d_law_199 : decode code 199 = .ok (.aload_n 0, 1) := by decide +kernel
theorem d_law_200 : decode code 200 = .ok (.iload_n 3, 1) := by decide +kernel
theorem d_law_201 : decode code 201 = .ok (.iconst 3, 1) := by decide +kernel
theorem d_law_202 : decode code 202 = .ok (.iadd, 1) := by decide +kernel
theorem d_law_203 : decode code 203 = .ok (.iaload, 1) := by decide +kernel
theorem d_law_204 : decode code 204 = .ok (.aload_n 0, 1) := by decide +kernel
theorem d_law_205 : decode code 205 = .ok (.iload_n 3, 1) := by decide +kernel
theorem d_law_206 : decode code 206 = .ok (.iconst 4, 1) := by decide +kernel
theorem d_law_207 : decode code 207 = .ok (.iadd, 1) := by decide +kernel
theorem d_law_208 : decode code 208 = .ok (.iaload, 1) := by decide +kernel
theorem d_law_209 : decode code 209 = .ok (.invokevirtual 17, 3) := by decide +kernel
theorem d_law_212 : decode code 212 = .ok (.if_icmp .eq 1084, 3) := by decide +kernel
theorem d_law_215 : decode code 215 = .ok (.iconst 0, 1) := by decide +kernel
theorem d_law_216 : decode code 216 = .ok (.ireturn, 1) := by decide +kernel
theorem d_law_217 : decode code 217 = .ok (.aload_n 1, 1) := by decide +kernel
theorem d_law_218 : decode code 218 = .ok (.aload_n 0, 1) := by decide +kernel
theorem d_law_219 : decode code 219 = .ok (.iload_n 3, 1) := by decide +kernel
theorem d_law_220 : decode code 220 = .ok (.iconst 1, 1) := by decide +kernel
theorem d_law_221 : decode code 221 = .ok (.iadd, 1) := by decide +kernel
theorem d_law_222 : decode code 222 = .ok (.iaload, 1) := by decide +kernel
theorem d_law_223 : decode code 223 = .ok (.aload_n 0, 1) := by decide +kernel
theorem d_law_224 : decode code 224 = .ok (.iload_n 3, 1) := by decide +kernel
theorem d_law_225 : decode code 225 = .ok (.iconst 2, 1) := by decide +kernel
theorem d_law_226 : decode code 226 = .ok (.iadd, 1) := by decide +kernel
theorem d_law_227 : decode code 227 = .ok (.iaload, 1) := by decide +kernel
theorem d_law_228 : decode code 228 = .ok (.invokevirtual 18, 3) := by decide +kernel
theorem d_law_231 : decode code 231 = .ok (.aload_n 2, 1) := by decide +kernel
theorem d_law_232 : decode code 232 = .ok (.aload_n 0, 1) := by decide +kernel
theorem d_law_233 : decode code 233 = .ok (.iload_n 3, 1) := by decide +kernel
theorem d_law_234 : decode code 234 = .ok (.iconst 1, 1) := by decide +kernel
theorem d_law_235 : decode code 235 = .ok (.iadd, 1) := by decide +kernel
theorem d_law_236 : decode code 236 = .ok (.iaload, 1) := by decide +kernel
theorem d_law_237 : decode code 237 = .ok (.aload_n 0, 1) := by decide +kernel
theorem d_law_238 : decode code 238 = .ok (.iload_n 3, 1) := by decide +kernel
theorem d_law_239 : decode code 239 = .ok (.iconst 2, 1) := by decide +kernel
theorem d_law_240 : decode code 240 = .ok (.iadd, 1) := by decide +kernel
theorem d_law_241 : decode code 241 = .ok (.iaload, 1) := by decide +kernel
theorem d_law_242 : decode code 242 = .ok (.invokevirtual 22, 3) := by decide +kernel
theorem d_law_245 : decode code 245 = .ok (.if_icmp .eq 1051, 3) := by decide +kernel
theorem d_law_248 : decode code 248 = .ok (.iconst 0, 1) := by decide +kernel
theorem d_law_249 : decode code 249 = .ok (.ireturn, 1) := by decide +kernel
theorem d_law_250 : decode code 250 = .ok (.aload_n 1, 1) := by decide +kernel
theorem d_law_251 : decode code 251 = .ok (.aload_n 0, 1) := by decide +kernel
theorem d_law_252 : decode code 252 = .ok (.iload_n 3, 1) := by decide +kernel
theorem d_law_253 : decode code 253 = .ok (.iconst 1, 1) := by decide +kernel
theorem d_law_254 : decode code 254 = .ok (.iadd, 1) := by decide +kernel
theorem d_law_255 : decode code 255 = .ok (.iaload, 1) := by decide +kernel
theorem d_law_256 : decode code 256 = .ok (.aload_n 0, 1) := by decide +kernel
theorem d_law_257 : decode code 257 = .ok (.iload_n 3, 1) := by decide +kernel
theorem d_law_258 : decode code 258 = .ok (.iconst 2, 1) := by decide +kernel
theorem d_law_259 : decode code 259 = .ok (.iadd, 1) := by decide +kernel
theorem d_law_260 : decode code 260 = .ok (.iaload, 1) := by decide +kernel
theorem d_law_261 : decode code 261 = .ok (.invokevirtual 23, 3) := by decide +kernel
theorem d_law_264 : decode code 264 = .ok (.aload_n 2, 1) := by decide +kernel
theorem d_law_265 : decode code 265 = .ok (.aload_n 0, 1) := by decide +kernel
theorem d_law_266 : decode code 266 = .ok (.iload_n 3, 1) := by decide +kernel
theorem d_law_267 : decode code 267 = .ok (.iconst 1, 1) := by decide +kernel
theorem d_law_268 : decode code 268 = .ok (.iadd, 1) := by decide +kernel
theorem d_law_269 : decode code 269 = .ok (.iaload, 1) := by decide +kernel
theorem d_law_270 : decode code 270 = .ok (.aload_n 0, 1) := by decide +kernel
theorem d_law_271 : decode code 271 = .ok (.iload_n 3, 1) := by decide +kernel
theorem d_law_272 : decode code 272 = .ok (.iconst 2, 1) := by decide +kernel
theorem d_law_273 : decode code 273 = .ok (.iadd, 1) := by decide +kernel
theorem d_law_274 : decode code 274 = .ok (.iaload, 1) := by decide +kernel
theorem d_law_275 : decode code 275 = .ok (.invokevirtual 26, 3) := by decide +kernel
theorem d_law_278 : decode code 278 = .ok (.if_icmp .eq 1018, 3) := by decide +kernel
theorem d_law_281 : decode code 281 = .ok (.iconst 0, 1) := by decide +kernel
theorem d_law_282 : decode code 282 = .ok (.ireturn, 1) := by decide +kernel
theorem d_law_283 : decode code 283 = .ok (.aload_n 1, 1) := by decide +kernel
theorem d_law_284 : decode code 284 = .ok (.aload_n 0, 1) := by decide +kernel
theorem d_law_285 : decode code 285 = .ok (.iload_n 3, 1) := by decide +kernel
theorem d_law_286 : decode code 286 = .ok (.iconst 1, 1) := by decide +kernel
theorem d_law_287 : decode code 287 = .ok (.iadd, 1) := by decide +kernel
theorem d_law_288 : decode code 288 = .ok (.iaload, 1) := by decide +kernel
theorem d_law_289 : decode code 289 = .ok (.invokevirtual 27, 3) := by decide +kernel
theorem d_law_292 : decode code 292 = .ok (.aload_n 2, 1) := by decide +kernel
theorem d_law_293 : decode code 293 = .ok (.aload_n 0, 1) := by decide +kernel
theorem d_law_294 : decode code 294 = .ok (.iload_n 3, 1) := by decide +kernel
theorem d_law_295 : decode code 295 = .ok (.iconst 1, 1) := by decide +kernel
theorem d_law_296 : decode code 296 = .ok (.iadd, 1) := by decide +kernel
theorem d_law_297 : decode code 297 = .ok (.iaload, 1) := by decide +kernel
theorem d_law_298 : decode code 298 = .ok (.invokevirtual 31, 3) := by decide +kernel
theorem d_law_301 : decode code 301 = .ok (.if_icmp .eq 995, 3) := by decide +kernel
theorem d_law_304 : decode code 304 = .ok (.iconst 0, 1) := by decide +kernel
theorem d_law_305 : decode code 305 = .ok (.ireturn, 1) := by decide +kernel
theorem d_law_306 : decode code 306 = .ok (.aload_n 1, 1) := by decide +kernel
theorem d_law_307 : decode code 307 = .ok (.aload_n 0, 1) := by decide +kernel
theorem d_law_308 : decode code 308 = .ok (.iload_n 3, 1) := by decide +kernel
theorem d_law_309 : decode code 309 = .ok (.iconst 1, 1) := by decide +kernel
theorem d_law_310 : decode code 310 = .ok (.iadd, 1) := by decide +kernel
theorem d_law_311 : decode code 311 = .ok (.iaload, 1) := by decide +kernel
theorem d_law_312 : decode code 312 = .ok (.aload_n 0, 1) := by decide +kernel
theorem d_law_313 : decode code 313 = .ok (.iload_n 3, 1) := by decide +kernel
theorem d_law_314 : decode code 314 = .ok (.iconst 2, 1) := by decide +kernel
theorem d_law_315 : decode code 315 = .ok (.iadd, 1) := by decide +kernel
theorem d_law_316 : decode code 316 = .ok (.iaload, 1) := by decide +kernel
theorem d_law_317 : decode code 317 = .ok (.aload_n 0, 1) := by decide +kernel
theorem d_law_318 : decode code 318 = .ok (.iload_n 3, 1) := by decide +kernel
theorem d_law_319 : decode code 319 = .ok (.iconst 3, 1) := by decide +kernel
theorem d_law_320 : decode code 320 = .ok (.iadd, 1) := by decide +kernel
theorem d_law_321 : decode code 321 = .ok (.iaload, 1) := by decide +kernel
theorem d_law_322 : decode code 322 = .ok (.aload_n 0, 1) := by decide +kernel
theorem d_law_323 : decode code 323 = .ok (.iload_n 3, 1) := by decide +kernel
theorem d_law_324 : decode code 324 = .ok (.iconst 4, 1) := by decide +kernel
theorem d_law_325 : decode code 325 = .ok (.iadd, 1) := by decide +kernel
theorem d_law_326 : decode code 326 = .ok (.iaload, 1) := by decide +kernel
theorem d_law_327 : decode code 327 = .ok (.invokevirtual 32, 3) := by decide +kernel
theorem d_law_330 : decode code 330 = .ok (.aload_n 2, 1) := by decide +kernel
theorem d_law_331 : decode code 331 = .ok (.aload_n 0, 1) := by decide +kernel
theorem d_law_332 : decode code 332 = .ok (.iload_n 3, 1) := by decide +kernel
theorem d_law_333 : decode code 333 = .ok (.iconst 1, 1) := by decide +kernel
theorem d_law_334 : decode code 334 = .ok (.iadd, 1) := by decide +kernel
theorem d_law_335 : decode code 335 = .ok (.iaload, 1) := by decide +kernel
theorem d_law_336 : decode code 336 = .ok (.aload_n 0, 1) := by decide +kernel
theorem d_law_337 : decode code 337 = .ok (.iload_n 3, 1) := by decide +kernel
theorem d_law_338 : decode code 338 = .ok (.iconst 2, 1) := by decide +kernel
theorem d_law_339 : decode code 339 = .ok (.iadd, 1) := by decide +kernel
theorem d_law_340 : decode code 340 = .ok (.iaload, 1) := by decide +kernel
theorem d_law_341 : decode code 341 = .ok (.aload_n 0, 1) := by decide +kernel
theorem d_law_342 : decode code 342 = .ok (.iload_n 3, 1) := by decide +kernel
theorem d_law_343 : decode code 343 = .ok (.iconst 3, 1) := by decide +kernel
theorem d_law_344 : decode code 344 = .ok (.iadd, 1) := by decide +kernel
theorem d_law_345 : decode code 345 = .ok (.iaload, 1) := by decide +kernel
theorem d_law_346 : decode code 346 = .ok (.aload_n 0, 1) := by decide +kernel
theorem d_law_347 : decode code 347 = .ok (.iload_n 3, 1) := by decide +kernel
theorem d_law_348 : decode code 348 = .ok (.iconst 4, 1) := by decide +kernel
theorem d_law_349 : decode code 349 = .ok (.iadd, 1) := by decide +kernel
theorem d_law_350 : decode code 350 = .ok (.iaload, 1) := by decide +kernel
theorem d_law_351 : decode code 351 = .ok (.invokevirtual 35, 3) := by decide +kernel
theorem d_law_354 : decode code 354 = .ok (.if_icmp .eq 942, 3) := by decide +kernel
theorem d_law_357 : decode code 357 = .ok (.iconst 0, 1) := by decide +kernel
theorem d_law_358 : decode code 358 = .ok (.ireturn, 1) := by decide +kernel
theorem d_law_359 : decode code 359 = .ok (.aload_n 1, 1) := by decide +kernel
theorem d_law_360 : decode code 360 = .ok (.aload_n 0, 1) := by decide +kernel
theorem d_law_361 : decode code 361 = .ok (.iload_n 3, 1) := by decide +kernel
theorem d_law_362 : decode code 362 = .ok (.iconst 1, 1) := by decide +kernel
theorem d_law_363 : decode code 363 = .ok (.iadd, 1) := by decide +kernel
theorem d_law_364 : decode code 364 = .ok (.iaload, 1) := by decide +kernel
theorem d_law_365 : decode code 365 = .ok (.aload_n 0, 1) := by decide +kernel
theorem d_law_366 : decode code 366 = .ok (.iload_n 3, 1) := by decide +kernel
theorem d_law_367 : decode code 367 = .ok (.iconst 2, 1) := by decide +kernel
theorem d_law_368 : decode code 368 = .ok (.iadd, 1) := by decide +kernel
theorem d_law_369 : decode code 369 = .ok (.iaload, 1) := by decide +kernel
theorem d_law_370 : decode code 370 = .ok (.aload_n 0, 1) := by decide +kernel
theorem d_law_371 : decode code 371 = .ok (.iload_n 3, 1) := by decide +kernel
theorem d_law_372 : decode code 372 = .ok (.iconst 3, 1) := by decide +kernel
theorem d_law_373 : decode code 373 = .ok (.iadd, 1) := by decide +kernel
theorem d_law_374 : decode code 374 = .ok (.iaload, 1) := by decide +kernel
theorem d_law_375 : decode code 375 = .ok (.invokevirtual 36, 3) := by decide +kernel
theorem d_law_378 : decode code 378 = .ok (.aload_n 2, 1) := by decide +kernel
theorem d_law_379 : decode code 379 = .ok (.aload_n 0, 1) := by decide +kernel
theorem d_law_380 : decode code 380 = .ok (.iload_n 3, 1) := by decide +kernel
theorem d_law_381 : decode code 381 = .ok (.iconst 1, 1) := by decide +kernel
theorem d_law_382 : decode code 382 = .ok (.iadd, 1) := by decide +kernel
theorem d_law_383 : decode code 383 = .ok (.iaload, 1) := by decide +kernel
theorem d_law_384 : decode code 384 = .ok (.aload_n 0, 1) := by decide +kernel
theorem d_law_385 : decode code 385 = .ok (.iload_n 3, 1) := by decide +kernel
theorem d_law_386 : decode code 386 = .ok (.iconst 2, 1) := by decide +kernel
theorem d_law_387 : decode code 387 = .ok (.iadd, 1) := by decide +kernel
theorem d_law_388 : decode code 388 = .ok (.iaload, 1) := by decide +kernel
theorem d_law_389 : decode code 389 = .ok (.aload_n 0, 1) := by decide +kernel
theorem d_law_390 : decode code 390 = .ok (.iload_n 3, 1) := by decide +kernel
theorem d_law_391 : decode code 391 = .ok (.iconst 3, 1) := by decide +kernel
theorem d_law_392 : decode code 392 = .ok (.iadd, 1) := by decide +kernel
theorem d_law_393 : decode code 393 = .ok (.iaload, 1) := by decide +kernel
theorem d_law_394 : decode code 394 = .ok (.invokevirtual 40, 3) := by decide +kernel
theorem d_law_397 : decode code 397 = .ok (.if_icmp .eq 899, 3) := by decide +kernel
theorem d_law_400 : decode code 400 = .ok (.iconst 0, 1) := by decide +kernel
theorem d_law_401 : decode code 401 = .ok (.ireturn, 1) := by decide +kernel
theorem d_law_402 : decode code 402 = .ok (.aload_n 1, 1) := by decide +kernel
theorem d_law_403 : decode code 403 = .ok (.aload_n 0, 1) := by decide +kernel
theorem d_law_404 : decode code 404 = .ok (.iload_n 3, 1) := by decide +kernel
theorem d_law_405 : decode code 405 = .ok (.iconst 1, 1) := by decide +kernel
theorem d_law_406 : decode code 406 = .ok (.iadd, 1) := by decide +kernel
theorem d_law_407 : decode code 407 = .ok (.iaload, 1) := by decide +kernel
theorem d_law_408 : decode code 408 = .ok (.aload_n 0, 1) := by decide +kernel
theorem d_law_409 : decode code 409 = .ok (.iload_n 3, 1) := by decide +kernel
theorem d_law_410 : decode code 410 = .ok (.iconst 2, 1) := by decide +kernel
theorem d_law_411 : decode code 411 = .ok (.iadd, 1) := by decide +kernel
theorem d_law_412 : decode code 412 = .ok (.iaload, 1) := by decide +kernel
theorem d_law_413 : decode code 413 = .ok (.invokevirtual 41, 3) := by decide +kernel
theorem d_law_416 : decode code 416 = .ok (.aload_n 2, 1) := by decide +kernel
theorem d_law_417 : decode code 417 = .ok (.aload_n 0, 1) := by decide +kernel
theorem d_law_418 : decode code 418 = .ok (.iload_n 3, 1) := by decide +kernel
theorem d_law_419 : decode code 419 = .ok (.iconst 1, 1) := by decide +kernel
theorem d_law_420 : decode code 420 = .ok (.iadd, 1) := by decide +kernel
theorem d_law_421 : decode code 421 = .ok (.iaload, 1) := by decide +kernel
theorem d_law_422 : decode code 422 = .ok (.aload_n 0, 1) := by decide +kernel
theorem d_law_423 : decode code 423 = .ok (.iload_n 3, 1) := by decide +kernel
theorem d_law_424 : decode code 424 = .ok (.iconst 2, 1) := by decide +kernel
theorem d_law_425 : decode code 425 = .ok (.iadd, 1) := by decide +kernel
theorem d_law_426 : decode code 426 = .ok (.iaload, 1) := by decide +kernel
theorem d_law_427 : decode code 427 = .ok (.invokevirtual 44, 3) := by decide +kernel
theorem d_law_430 : decode code 430 = .ok (.if_icmp .eq 866, 3) := by decide +kernel
theorem d_law_433 : decode code 433 = .ok (.iconst 0, 1) := by decide +kernel
theorem d_law_434 : decode code 434 = .ok (.ireturn, 1) := by decide +kernel
theorem d_law_435 : decode code 435 = .ok (.aload_n 1, 1) := by decide +kernel
theorem d_law_436 : decode code 436 = .ok (.aload_n 0, 1) := by decide +kernel
theorem d_law_437 : decode code 437 = .ok (.iload_n 3, 1) := by decide +kernel
theorem d_law_438 : decode code 438 = .ok (.iconst 1, 1) := by decide +kernel
theorem d_law_439 : decode code 439 = .ok (.iadd, 1) := by decide +kernel
theorem d_law_440 : decode code 440 = .ok (.iaload, 1) := by decide +kernel
theorem d_law_441 : decode code 441 = .ok (.invokevirtual 45, 3) := by decide +kernel
theorem d_law_444 : decode code 444 = .ok (.aload_n 2, 1) := by decide +kernel
theorem d_law_445 : decode code 445 = .ok (.aload_n 0, 1) := by decide +kernel
theorem d_law_446 : decode code 446 = .ok (.iload_n 3, 1) := by decide +kernel
theorem d_law_447 : decode code 447 = .ok (.iconst 1, 1) := by decide +kernel
theorem d_law_448 : decode code 448 = .ok (.iadd, 1) := by decide +kernel
theorem d_law_449 : decode code 449 = .ok (.iaload, 1) := by decide +kernel
theorem d_law_450 : decode code 450 = .ok (.invokevirtual 48, 3) := by decide +kernel
theorem d_law_453 : decode code 453 = .ok (.if_icmp .eq 843, 3) := by decide +kernel
theorem d_law_456 : decode code 456 = .ok (.iconst 0, 1) := by decide +kernel
theorem d_law_457 : decode code 457 = .ok (.ireturn, 1) := by decide +kernel
theorem d_law_458 : decode code 458 = .ok (.aload_n 1, 1) := by decide +kernel
theorem d_law_459 : decode code 459 = .ok (.aload_n 0, 1) := by decide +kernel
theorem d_law_460 : decode code 460 = .ok (.iload_n 3, 1) := by decide +kernel
theorem d_law_461 : decode code 461 = .ok (.iconst 1, 1) := by decide +kernel
theorem d_law_462 : decode code 462 = .ok (.iadd, 1) := by decide +kernel
theorem d_law_463 : decode code 463 = .ok (.iaload, 1) := by decide +kernel
theorem d_law_464 : decode code 464 = .ok (.aload_n 0, 1) := by decide +kernel
theorem d_law_465 : decode code 465 = .ok (.iload_n 3, 1) := by decide +kernel
theorem d_law_466 : decode code 466 = .ok (.iconst 2, 1) := by decide +kernel
theorem d_law_467 : decode code 467 = .ok (.iadd, 1) := by decide +kernel
theorem d_law_468 : decode code 468 = .ok (.iaload, 1) := by decide +kernel
theorem d_law_469 : decode code 469 = .ok (.invokevirtual 49, 3) := by decide +kernel
theorem d_law_472 : decode code 472 = .ok (.aload_n 2, 1) := by decide +kernel
theorem d_law_473 : decode code 473 = .ok (.aload_n 0, 1) := by decide +kernel
theorem d_law_474 : decode code 474 = .ok (.iload_n 3, 1) := by decide +kernel
theorem d_law_475 : decode code 475 = .ok (.iconst 1, 1) := by decide +kernel
theorem d_law_476 : decode code 476 = .ok (.iadd, 1) := by decide +kernel
theorem d_law_477 : decode code 477 = .ok (.iaload, 1) := by decide +kernel
theorem d_law_478 : decode code 478 = .ok (.aload_n 0, 1) := by decide +kernel
theorem d_law_479 : decode code 479 = .ok (.iload_n 3, 1) := by decide +kernel
theorem d_law_480 : decode code 480 = .ok (.iconst 2, 1) := by decide +kernel
theorem d_law_481 : decode code 481 = .ok (.iadd, 1) := by decide +kernel
theorem d_law_482 : decode code 482 = .ok (.iaload, 1) := by decide +kernel
theorem d_law_483 : decode code 483 = .ok (.invokevirtual 52, 3) := by decide +kernel
theorem d_law_486 : decode code 486 = .ok (.if_icmp .eq 810, 3) := by decide +kernel
theorem d_law_489 : decode code 489 = .ok (.iconst 0, 1) := by decide +kernel
theorem d_law_490 : decode code 490 = .ok (.ireturn, 1) := by decide +kernel
theorem d_law_491 : decode code 491 = .ok (.aload_n 1, 1) := by decide +kernel
theorem d_law_492 : decode code 492 = .ok (.aload_n 0, 1) := by decide +kernel
theorem d_law_493 : decode code 493 = .ok (.iload_n 3, 1) := by decide +kernel
theorem d_law_494 : decode code 494 = .ok (.iconst 1, 1) := by decide +kernel
theorem d_law_495 : decode code 495 = .ok (.iadd, 1) := by decide +kernel
theorem d_law_496 : decode code 496 = .ok (.iaload, 1) := by decide +kernel
theorem d_law_497 : decode code 497 = .ok (.aload_n 0, 1) := by decide +kernel
theorem d_law_498 : decode code 498 = .ok (.iload_n 3, 1) := by decide +kernel
theorem d_law_499 : decode code 499 = .ok (.iconst 2, 1) := by decide +kernel
theorem d_law_500 : decode code 500 = .ok (.iadd, 1) := by decide +kernel
theorem d_law_501 : decode code 501 = .ok (.iaload, 1) := by decide +kernel
theorem d_law_502 : decode code 502 = .ok (.aload_n 0, 1) := by decide +kernel
theorem d_law_503 : decode code 503 = .ok (.iload_n 3, 1) := by decide +kernel
theorem d_law_504 : decode code 504 = .ok (.iconst 3, 1) := by decide +kernel
theorem d_law_505 : decode code 505 = .ok (.iadd, 1) := by decide +kernel
theorem d_law_506 : decode code 506 = .ok (.iaload, 1) := by decide +kernel
theorem d_law_507 : decode code 507 = .ok (.invokevirtual 53, 3) := by decide +kernel
theorem d_law_510 : decode code 510 = .ok (.aload_n 2, 1) := by decide +kernel
theorem d_law_511 : decode code 511 = .ok (.aload_n 0, 1) := by decide +kernel
theorem d_law_512 : decode code 512 = .ok (.iload_n 3, 1) := by decide +kernel
theorem d_law_513 : decode code 513 = .ok (.iconst 1, 1) := by decide +kernel
theorem d_law_514 : decode code 514 = .ok (.iadd, 1) := by decide +kernel
theorem d_law_515 : decode code 515 = .ok (.iaload, 1) := by decide +kernel
theorem d_law_516 : decode code 516 = .ok (.aload_n 0, 1) := by decide +kernel
theorem d_law_517 : decode code 517 = .ok (.iload_n 3, 1) := by decide +kernel
theorem d_law_518 : decode code 518 = .ok (.iconst 2, 1) := by decide +kernel
theorem d_law_519 : decode code 519 = .ok (.iadd, 1) := by decide +kernel
theorem d_law_520 : decode code 520 = .ok (.iaload, 1) := by decide +kernel
theorem d_law_521 : decode code 521 = .ok (.aload_n 0, 1) := by decide +kernel
theorem d_law_522 : decode code 522 = .ok (.iload_n 3, 1) := by decide +kernel
theorem d_law_523 : decode code 523 = .ok (.iconst 3, 1) := by decide +kernel
theorem d_law_524 : decode code 524 = .ok (.iadd, 1) := by decide +kernel
theorem d_law_525 : decode code 525 = .ok (.iaload, 1) := by decide +kernel
theorem d_law_526 : decode code 526 = .ok (.invokevirtual 56, 3) := by decide +kernel
theorem d_law_529 : decode code 529 = .ok (.if_icmp .eq 767, 3) := by decide +kernel
theorem d_law_532 : decode code 532 = .ok (.iconst 0, 1) := by decide +kernel
theorem d_law_533 : decode code 533 = .ok (.ireturn, 1) := by decide +kernel
theorem d_law_534 : decode code 534 = .ok (.aload_n 1, 1) := by decide +kernel
theorem d_law_535 : decode code 535 = .ok (.aload_n 0, 1) := by decide +kernel
theorem d_law_536 : decode code 536 = .ok (.iload_n 3, 1) := by decide +kernel
theorem d_law_537 : decode code 537 = .ok (.iconst 1, 1) := by decide +kernel
theorem d_law_538 : decode code 538 = .ok (.iadd, 1) := by decide +kernel
theorem d_law_539 : decode code 539 = .ok (.iaload, 1) := by decide +kernel
theorem d_law_540 : decode code 540 = .ok (.aload_n 0, 1) := by decide +kernel
theorem d_law_541 : decode code 541 = .ok (.iload_n 3, 1) := by decide +kernel
theorem d_law_542 : decode code 542 = .ok (.iconst 2, 1) := by decide +kernel
theorem d_law_543 : decode code 543 = .ok (.iadd, 1) := by decide +kernel
theorem d_law_544 : decode code 544 = .ok (.iaload, 1) := by decide +kernel
theorem d_law_545 : decode code 545 = .ok (.invokevirtual 57, 3) := by decide +kernel
theorem d_law_548 : decode code 548 = .ok (.aload_n 2, 1) := by decide +kernel
theorem d_law_549 : decode code 549 = .ok (.aload_n 0, 1) := by decide +kernel
theorem d_law_550 : decode code 550 = .ok (.iload_n 3, 1) := by decide +kernel
theorem d_law_551 : decode code 551 = .ok (.iconst 1, 1) := by decide +kernel
theorem d_law_552 : decode code 552 = .ok (.iadd, 1) := by decide +kernel
theorem d_law_553 : decode code 553 = .ok (.iaload, 1) := by decide +kernel
theorem d_law_554 : decode code 554 = .ok (.aload_n 0, 1) := by decide +kernel
theorem d_law_555 : decode code 555 = .ok (.iload_n 3, 1) := by decide +kernel
theorem d_law_556 : decode code 556 = .ok (.iconst 2, 1) := by decide +kernel
theorem d_law_557 : decode code 557 = .ok (.iadd, 1) := by decide +kernel
theorem d_law_558 : decode code 558 = .ok (.iaload, 1) := by decide +kernel
theorem d_law_559 : decode code 559 = .ok (.invokevirtual 60, 3) := by decide +kernel
theorem d_law_562 : decode code 562 = .ok (.if_icmp .eq 734, 3) := by decide +kernel
theorem d_law_565 : decode code 565 = .ok (.iconst 0, 1) := by decide +kernel
theorem d_law_566 : decode code 566 = .ok (.ireturn, 1) := by decide +kernel
theorem d_law_567 : decode code 567 = .ok (.aload_n 1, 1) := by decide +kernel
theorem d_law_568 : decode code 568 = .ok (.aload_n 0, 1) := by decide +kernel
theorem d_law_569 : decode code 569 = .ok (.iload_n 3, 1) := by decide +kernel
theorem d_law_570 : decode code 570 = .ok (.iconst 1, 1) := by decide +kernel
theorem d_law_571 : decode code 571 = .ok (.iadd, 1) := by decide +kernel
theorem d_law_572 : decode code 572 = .ok (.iaload, 1) := by decide +kernel
theorem d_law_573 : decode code 573 = .ok (.invokevirtual 61, 3) := by decide +kernel
theorem d_law_576 : decode code 576 = .ok (.aload_n 2, 1) := by decide +kernel
theorem d_law_577 : decode code 577 = .ok (.aload_n 0, 1) := by decide +kernel
theorem d_law_578 : decode code 578 = .ok (.iload_n 3, 1) := by decide +kernel
theorem d_law_579 : decode code 579 = .ok (.iconst 1, 1) := by decide +kernel
theorem d_law_580 : decode code 580 = .ok (.iadd, 1) := by decide +kernel
theorem d_law_581 : decode code 581 = .ok (.iaload, 1) := by decide +kernel
theorem d_law_582 : decode code 582 = .ok (.invokevirtual 64, 3) := by decide +kernel
theorem d_law_585 : decode code 585 = .ok (.if_icmp .eq 711, 3) := by decide +kernel
theorem d_law_588 : decode code 588 = .ok (.iconst 0, 1) := by decide +kernel
theorem d_law_589 : decode code 589 = .ok (.ireturn, 1) := by decide +kernel
theorem d_law_590 : decode code 590 = .ok (.aload_n 1, 1) := by decide +kernel
theorem d_law_591 : decode code 591 = .ok (.aload_n 0, 1) := by decide +kernel
theorem d_law_592 : decode code 592 = .ok (.iload_n 3, 1) := by decide +kernel
theorem d_law_593 : decode code 593 = .ok (.iconst 1, 1) := by decide +kernel
theorem d_law_594 : decode code 594 = .ok (.iadd, 1) := by decide +kernel
theorem d_law_595 : decode code 595 = .ok (.iaload, 1) := by decide +kernel
theorem d_law_596 : decode code 596 = .ok (.aload_n 0, 1) := by decide +kernel
theorem d_law_597 : decode code 597 = .ok (.iload_n 3, 1) := by decide +kernel
theorem d_law_598 : decode code 598 = .ok (.iconst 2, 1) := by decide +kernel
theorem d_law_599 : decode code 599 = .ok (.iadd, 1) := by decide +kernel
theorem d_law_600 : decode code 600 = .ok (.iaload, 1) := by decide +kernel
theorem d_law_601 : decode code 601 = .ok (.aload_n 0, 1) := by decide +kernel
theorem d_law_602 : decode code 602 = .ok (.iload_n 3, 1) := by decide +kernel
theorem d_law_603 : decode code 603 = .ok (.iconst 3, 1) := by decide +kernel
theorem d_law_604 : decode code 604 = .ok (.iadd, 1) := by decide +kernel
theorem d_law_605 : decode code 605 = .ok (.iaload, 1) := by decide +kernel
theorem d_law_606 : decode code 606 = .ok (.invokevirtual 65, 3) := by decide +kernel
theorem d_law_609 : decode code 609 = .ok (.aload_n 2, 1) := by decide +kernel
theorem d_law_610 : decode code 610 = .ok (.aload_n 0, 1) := by decide +kernel
theorem d_law_611 : decode code 611 = .ok (.iload_n 3, 1) := by decide +kernel
theorem d_law_612 : decode code 612 = .ok (.iconst 1, 1) := by decide +kernel
theorem d_law_613 : decode code 613 = .ok (.iadd, 1) := by decide +kernel
theorem d_law_614 : decode code 614 = .ok (.iaload, 1) := by decide +kernel
theorem d_law_615 : decode code 615 = .ok (.aload_n 0, 1) := by decide +kernel
theorem d_law_616 : decode code 616 = .ok (.iload_n 3, 1) := by decide +kernel
theorem d_law_617 : decode code 617 = .ok (.iconst 2, 1) := by decide +kernel
theorem d_law_618 : decode code 618 = .ok (.iadd, 1) := by decide +kernel
theorem d_law_619 : decode code 619 = .ok (.iaload, 1) := by decide +kernel
theorem d_law_620 : decode code 620 = .ok (.aload_n 0, 1) := by decide +kernel
theorem d_law_621 : decode code 621 = .ok (.iload_n 3, 1) := by decide +kernel
theorem d_law_622 : decode code 622 = .ok (.iconst 3, 1) := by decide +kernel
theorem d_law_623 : decode code 623 = .ok (.iadd, 1) := by decide +kernel
theorem d_law_624 : decode code 624 = .ok (.iaload, 1) := by decide +kernel
theorem d_law_625 : decode code 625 = .ok (.invokevirtual 68, 3) := by decide +kernel
theorem d_law_628 : decode code 628 = .ok (.if_icmp .eq 668, 3) := by decide +kernel
theorem d_law_631 : decode code 631 = .ok (.iconst 0, 1) := by decide +kernel
theorem d_law_632 : decode code 632 = .ok (.ireturn, 1) := by decide +kernel
theorem d_law_633 : decode code 633 = .ok (.aload_n 1, 1) := by decide +kernel
theorem d_law_634 : decode code 634 = .ok (.aload_n 0, 1) := by decide +kernel
theorem d_law_635 : decode code 635 = .ok (.iload_n 3, 1) := by decide +kernel
theorem d_law_636 : decode code 636 = .ok (.iconst 1, 1) := by decide +kernel
theorem d_law_637 : decode code 637 = .ok (.iadd, 1) := by decide +kernel
theorem d_law_638 : decode code 638 = .ok (.iaload, 1) := by decide +kernel
theorem d_law_639 : decode code 639 = .ok (.aload_n 0, 1) := by decide +kernel
theorem d_law_640 : decode code 640 = .ok (.iload_n 3, 1) := by decide +kernel
theorem d_law_641 : decode code 641 = .ok (.iconst 2, 1) := by decide +kernel
theorem d_law_642 : decode code 642 = .ok (.iadd, 1) := by decide +kernel
theorem d_law_643 : decode code 643 = .ok (.iaload, 1) := by decide +kernel
theorem d_law_644 : decode code 644 = .ok (.aload_n 0, 1) := by decide +kernel
theorem d_law_645 : decode code 645 = .ok (.iload_n 3, 1) := by decide +kernel
theorem d_law_646 : decode code 646 = .ok (.iconst 3, 1) := by decide +kernel
theorem d_law_647 : decode code 647 = .ok (.iadd, 1) := by decide +kernel
theorem d_law_648 : decode code 648 = .ok (.iaload, 1) := by decide +kernel
theorem d_law_649 : decode code 649 = .ok (.aload_n 0, 1) := by decide +kernel
theorem d_law_650 : decode code 650 = .ok (.iload_n 3, 1) := by decide +kernel
theorem d_law_651 : decode code 651 = .ok (.iconst 4, 1) := by decide +kernel
theorem d_law_652 : decode code 652 = .ok (.iadd, 1) := by decide +kernel
theorem d_law_653 : decode code 653 = .ok (.iaload, 1) := by decide +kernel
theorem d_law_654 : decode code 654 = .ok (.aload_n 0, 1) := by decide +kernel
theorem d_law_655 : decode code 655 = .ok (.iload_n 3, 1) := by decide +kernel
theorem d_law_656 : decode code 656 = .ok (.iconst 5, 1) := by decide +kernel
theorem d_law_657 : decode code 657 = .ok (.iadd, 1) := by decide +kernel
theorem d_law_658 : decode code 658 = .ok (.iaload, 1) := by decide +kernel
theorem d_law_659 : decode code 659 = .ok (.invokevirtual 69, 3) := by decide +kernel
theorem d_law_662 : decode code 662 = .ok (.aload_n 2, 1) := by decide +kernel
theorem d_law_663 : decode code 663 = .ok (.aload_n 0, 1) := by decide +kernel
theorem d_law_664 : decode code 664 = .ok (.iload_n 3, 1) := by decide +kernel
theorem d_law_665 : decode code 665 = .ok (.iconst 1, 1) := by decide +kernel
theorem d_law_666 : decode code 666 = .ok (.iadd, 1) := by decide +kernel
theorem d_law_667 : decode code 667 = .ok (.iaload, 1) := by decide +kernel
theorem d_law_668 : decode code 668 = .ok (.aload_n 0, 1) := by decide +kernel
theorem d_law_669 : decode code 669 = .ok (.iload_n 3, 1) := by decide +kernel
theorem d_law_670 : decode code 670 = .ok (.iconst 2, 1) := by decide +kernel
theorem d_law_671 : decode code 671 = .ok (.iadd, 1) := by decide +kernel
theorem d_law_672 : decode code 672 = .ok (.iaload, 1) := by decide +kernel
theorem d_law_673 : decode code 673 = .ok (.aload_n 0, 1) := by decide +kernel
theorem d_law_674 : decode code 674 = .ok (.iload_n 3, 1) := by decide +kernel
theorem d_law_675 : decode code 675 = .ok (.iconst 3, 1) := by decide +kernel
theorem d_law_676 : decode code 676 = .ok (.iadd, 1) := by decide +kernel
theorem d_law_677 : decode code 677 = .ok (.iaload, 1) := by decide +kernel
theorem d_law_678 : decode code 678 = .ok (.aload_n 0, 1) := by decide +kernel
theorem d_law_679 : decode code 679 = .ok (.iload_n 3, 1) := by decide +kernel
theorem d_law_680 : decode code 680 = .ok (.iconst 4, 1) := by decide +kernel
theorem d_law_681 : decode code 681 = .ok (.iadd, 1) := by decide +kernel
theorem d_law_682 : decode code 682 = .ok (.iaload, 1) := by decide +kernel
theorem d_law_683 : decode code 683 = .ok (.aload_n 0, 1) := by decide +kernel
theorem d_law_684 : decode code 684 = .ok (.iload_n 3, 1) := by decide +kernel
theorem d_law_685 : decode code 685 = .ok (.iconst 5, 1) := by decide +kernel
theorem d_law_686 : decode code 686 = .ok (.iadd, 1) := by decide +kernel
theorem d_law_687 : decode code 687 = .ok (.iaload, 1) := by decide +kernel
theorem d_law_688 : decode code 688 = .ok (.invokevirtual 73, 3) := by decide +kernel
theorem d_law_691 : decode code 691 = .ok (.if_icmp .eq 605, 3) := by decide +kernel
theorem d_law_694 : decode code 694 = .ok (.iconst 0, 1) := by decide +kernel
theorem d_law_695 : decode code 695 = .ok (.ireturn, 1) := by decide +kernel
theorem d_law_696 : decode code 696 = .ok (.aload_n 1, 1) := by decide +kernel
theorem d_law_697 : decode code 697 = .ok (.aload_n 0, 1) := by decide +kernel
theorem d_law_698 : decode code 698 = .ok (.iload_n 3, 1) := by decide +kernel
theorem d_law_699 : decode code 699 = .ok (.iconst 1, 1) := by decide +kernel
theorem d_law_700 : decode code 700 = .ok (.iadd, 1) := by decide +kernel
theorem d_law_701 : decode code 701 = .ok (.iaload, 1) := by decide +kernel
theorem d_law_702 : decode code 702 = .ok (.aload_n 0, 1) := by decide +kernel
theorem d_law_703 : decode code 703 = .ok (.iload_n 3, 1) := by decide +kernel
theorem d_law_704 : decode code 704 = .ok (.iconst 2, 1) := by decide +kernel
theorem d_law_705 : decode code 705 = .ok (.iadd, 1) := by decide +kernel
theorem d_law_706 : decode code 706 = .ok (.iaload, 1) := by decide +kernel
theorem d_law_707 : decode code 707 = .ok (.aload_n 0, 1) := by decide +kernel
theorem d_law_708 : decode code 708 = .ok (.iload_n 3, 1) := by decide +kernel
theorem d_law_709 : decode code 709 = .ok (.iconst 3, 1) := by decide +kernel
theorem d_law_710 : decode code 710 = .ok (.iadd, 1) := by decide +kernel
theorem d_law_711 : decode code 711 = .ok (.iaload, 1) := by decide +kernel
theorem d_law_712 : decode code 712 = .ok (.aload_n 0, 1) := by decide +kernel
theorem d_law_713 : decode code 713 = .ok (.iload_n 3, 1) := by decide +kernel
theorem d_law_714 : decode code 714 = .ok (.iconst 4, 1) := by decide +kernel
theorem d_law_715 : decode code 715 = .ok (.iadd, 1) := by decide +kernel
theorem d_law_716 : decode code 716 = .ok (.iaload, 1) := by decide +kernel
theorem d_law_717 : decode code 717 = .ok (.aload_n 0, 1) := by decide +kernel
theorem d_law_718 : decode code 718 = .ok (.iload_n 3, 1) := by decide +kernel
theorem d_law_719 : decode code 719 = .ok (.iconst 5, 1) := by decide +kernel
theorem d_law_720 : decode code 720 = .ok (.iadd, 1) := by decide +kernel
theorem d_law_721 : decode code 721 = .ok (.iaload, 1) := by decide +kernel
theorem d_law_722 : decode code 722 = .ok (.invokevirtual 74, 3) := by decide +kernel
theorem d_law_725 : decode code 725 = .ok (.aload_n 2, 1) := by decide +kernel
theorem d_law_726 : decode code 726 = .ok (.aload_n 0, 1) := by decide +kernel
theorem d_law_727 : decode code 727 = .ok (.iload_n 3, 1) := by decide +kernel
theorem d_law_728 : decode code 728 = .ok (.iconst 1, 1) := by decide +kernel
theorem d_law_729 : decode code 729 = .ok (.iadd, 1) := by decide +kernel
theorem d_law_730 : decode code 730 = .ok (.iaload, 1) := by decide +kernel
theorem d_law_731 : decode code 731 = .ok (.aload_n 0, 1) := by decide +kernel
theorem d_law_732 : decode code 732 = .ok (.iload_n 3, 1) := by decide +kernel
theorem d_law_733 : decode code 733 = .ok (.iconst 2, 1) := by decide +kernel
theorem d_law_734 : decode code 734 = .ok (.iadd, 1) := by decide +kernel
theorem d_law_735 : decode code 735 = .ok (.iaload, 1) := by decide +kernel
theorem d_law_736 : decode code 736 = .ok (.aload_n 0, 1) := by decide +kernel
theorem d_law_737 : decode code 737 = .ok (.iload_n 3, 1) := by decide +kernel
theorem d_law_738 : decode code 738 = .ok (.iconst 3, 1) := by decide +kernel
theorem d_law_739 : decode code 739 = .ok (.iadd, 1) := by decide +kernel
theorem d_law_740 : decode code 740 = .ok (.iaload, 1) := by decide +kernel
theorem d_law_741 : decode code 741 = .ok (.aload_n 0, 1) := by decide +kernel
theorem d_law_742 : decode code 742 = .ok (.iload_n 3, 1) := by decide +kernel
theorem d_law_743 : decode code 743 = .ok (.iconst 4, 1) := by decide +kernel
theorem d_law_744 : decode code 744 = .ok (.iadd, 1) := by decide +kernel
theorem d_law_745 : decode code 745 = .ok (.iaload, 1) := by decide +kernel
theorem d_law_746 : decode code 746 = .ok (.aload_n 0, 1) := by decide +kernel
theorem d_law_747 : decode code 747 = .ok (.iload_n 3, 1) := by decide +kernel
theorem d_law_748 : decode code 748 = .ok (.iconst 5, 1) := by decide +kernel
theorem d_law_749 : decode code 749 = .ok (.iadd, 1) := by decide +kernel
theorem d_law_750 : decode code 750 = .ok (.iaload, 1) := by decide +kernel
theorem d_law_751 : decode code 751 = .ok (.invokevirtual 77, 3) := by decide +kernel
theorem d_law_754 : decode code 754 = .ok (.if_icmp .eq 542, 3) := by decide +kernel
theorem d_law_757 : decode code 757 = .ok (.iconst 0, 1) := by decide +kernel
theorem d_law_758 : decode code 758 = .ok (.ireturn, 1) := by decide +kernel
theorem d_law_759 : decode code 759 = .ok (.aload_n 1, 1) := by decide +kernel
theorem d_law_760 : decode code 760 = .ok (.aload_n 0, 1) := by decide +kernel
theorem d_law_761 : decode code 761 = .ok (.iload_n 3, 1) := by decide +kernel
theorem d_law_762 : decode code 762 = .ok (.iconst 1, 1) := by decide +kernel
theorem d_law_763 : decode code 763 = .ok (.iadd, 1) := by decide +kernel
theorem d_law_764 : decode code 764 = .ok (.iaload, 1) := by decide +kernel
theorem d_law_765 : decode code 765 = .ok (.aload_n 0, 1) := by decide +kernel
theorem d_law_766 : decode code 766 = .ok (.iload_n 3, 1) := by decide +kernel
theorem d_law_767 : decode code 767 = .ok (.iconst 2, 1) := by decide +kernel
theorem d_law_768 : decode code 768 = .ok (.iadd, 1) := by decide +kernel
theorem d_law_769 : decode code 769 = .ok (.iaload, 1) := by decide +kernel
theorem d_law_770 : decode code 770 = .ok (.aload_n 0, 1) := by decide +kernel
theorem d_law_771 : decode code 771 = .ok (.iload_n 3, 1) := by decide +kernel
theorem d_law_772 : decode code 772 = .ok (.iconst 3, 1) := by decide +kernel
theorem d_law_773 : decode code 773 = .ok (.iadd, 1) := by decide +kernel
theorem d_law_774 : decode code 774 = .ok (.iaload, 1) := by decide +kernel
theorem d_law_775 : decode code 775 = .ok (.aload_n 0, 1) := by decide +kernel
theorem d_law_776 : decode code 776 = .ok (.iload_n 3, 1) := by decide +kernel
theorem d_law_777 : decode code 777 = .ok (.iconst 4, 1) := by decide +kernel
theorem d_law_778 : decode code 778 = .ok (.iadd, 1) := by decide +kernel
theorem d_law_779 : decode code 779 = .ok (.iaload, 1) := by decide +kernel
theorem d_law_780 : decode code 780 = .ok (.aload_n 0, 1) := by decide +kernel
theorem d_law_781 : decode code 781 = .ok (.iload_n 3, 1) := by decide +kernel
theorem d_law_782 : decode code 782 = .ok (.iconst 5, 1) := by decide +kernel
theorem d_law_783 : decode code 783 = .ok (.iadd, 1) := by decide +kernel
theorem d_law_784 : decode code 784 = .ok (.iaload, 1) := by decide +kernel
theorem d_law_785 : decode code 785 = .ok (.aload_n 0, 1) := by decide +kernel
theorem d_law_786 : decode code 786 = .ok (.iload_n 3, 1) := by decide +kernel
theorem d_law_787 : decode code 787 = .ok (.bipush 6, 2) := by decide +kernel
theorem d_law_789 : decode code 789 = .ok (.iadd, 1) := by decide +kernel
theorem d_law_790 : decode code 790 = .ok (.iaload, 1) := by decide +kernel
theorem d_law_791 : decode code 791 = .ok (.aload_n 0, 1) := by decide +kernel
theorem d_law_792 : decode code 792 = .ok (.iload_n 3, 1) := by decide +kernel
theorem d_law_793 : decode code 793 = .ok (.bipush 7, 2) := by decide +kernel
theorem d_law_795 : decode code 795 = .ok (.iadd, 1) := by decide +kernel
theorem d_law_796 : decode code 796 = .ok (.iaload, 1) := by decide +kernel
theorem d_law_797 : decode code 797 = .ok (.invokevirtual 78, 3) := by decide +kernel
theorem d_law_800 : decode code 800 = .ok (.aload_n 2, 1) := by decide +kernel
theorem d_law_801 : decode code 801 = .ok (.aload_n 0, 1) := by decide +kernel
theorem d_law_802 : decode code 802 = .ok (.iload_n 3, 1) := by decide +kernel
theorem d_law_803 : decode code 803 = .ok (.iconst 1, 1) := by decide +kernel
theorem d_law_804 : decode code 804 = .ok (.iadd, 1) := by decide +kernel
theorem d_law_805 : decode code 805 = .ok (.iaload, 1) := by decide +kernel
theorem d_law_806 : decode code 806 = .ok (.aload_n 0, 1) := by decide +kernel
theorem d_law_807 : decode code 807 = .ok (.iload_n 3, 1) := by decide +kernel
theorem d_law_808 : decode code 808 = .ok (.iconst 2, 1) := by decide +kernel
theorem d_law_809 : decode code 809 = .ok (.iadd, 1) := by decide +kernel
theorem d_law_810 : decode code 810 = .ok (.iaload, 1) := by decide +kernel
theorem d_law_811 : decode code 811 = .ok (.aload_n 0, 1) := by decide +kernel
theorem d_law_812 : decode code 812 = .ok (.iload_n 3, 1) := by decide +kernel
theorem d_law_813 : decode code 813 = .ok (.iconst 3, 1) := by decide +kernel
theorem d_law_814 : decode code 814 = .ok (.iadd, 1) := by decide +kernel
theorem d_law_815 : decode code 815 = .ok (.iaload, 1) := by decide +kernel
theorem d_law_816 : decode code 816 = .ok (.aload_n 0, 1) := by decide +kernel
theorem d_law_817 : decode code 817 = .ok (.iload_n 3, 1) := by decide +kernel
theorem d_law_818 : decode code 818 = .ok (.iconst 4, 1) := by decide +kernel
theorem d_law_819 : decode code 819 = .ok (.iadd, 1) := by decide +kernel
theorem d_law_820 : decode code 820 = .ok (.iaload, 1) := by decide +kernel
theorem d_law_821 : decode code 821 = .ok (.aload_n 0, 1) := by decide +kernel
theorem d_law_822 : decode code 822 = .ok (.iload_n 3, 1) := by decide +kernel
theorem d_law_823 : decode code 823 = .ok (.iconst 5, 1) := by decide +kernel
theorem d_law_824 : decode code 824 = .ok (.iadd, 1) := by decide +kernel
theorem d_law_825 : decode code 825 = .ok (.iaload, 1) := by decide +kernel
theorem d_law_826 : decode code 826 = .ok (.aload_n 0, 1) := by decide +kernel
theorem d_law_827 : decode code 827 = .ok (.iload_n 3, 1) := by decide +kernel
theorem d_law_828 : decode code 828 = .ok (.bipush 6, 2) := by decide +kernel
theorem d_law_830 : decode code 830 = .ok (.iadd, 1) := by decide +kernel
theorem d_law_831 : decode code 831 = .ok (.iaload, 1) := by decide +kernel
theorem d_law_832 : decode code 832 = .ok (.aload_n 0, 1) := by decide +kernel
theorem d_law_833 : decode code 833 = .ok (.iload_n 3, 1) := by decide +kernel
theorem d_law_834 : decode code 834 = .ok (.bipush 7, 2) := by decide +kernel
theorem d_law_836 : decode code 836 = .ok (.iadd, 1) := by decide +kernel
theorem d_law_837 : decode code 837 = .ok (.iaload, 1) := by decide +kernel
theorem d_law_838 : decode code 838 = .ok (.invokevirtual 82, 3) := by decide +kernel
theorem d_law_841 : decode code 841 = .ok (.if_icmp .eq 455, 3) := by decide +kernel
theorem d_law_844 : decode code 844 = .ok (.iconst 0, 1) := by decide +kernel
theorem d_law_845 : decode code 845 = .ok (.ireturn, 1) := by decide +kernel
theorem d_law_846 : decode code 846 = .ok (.aload_n 1, 1) := by decide +kernel
theorem d_law_847 : decode code 847 = .ok (.aload_n 0, 1) := by decide +kernel
theorem d_law_848 : decode code 848 = .ok (.iload_n 3, 1) := by decide +kernel
theorem d_law_849 : decode code 849 = .ok (.iconst 1, 1) := by decide +kernel
theorem d_law_850 : decode code 850 = .ok (.iadd, 1) := by decide +kernel
theorem d_law_851 : decode code 851 = .ok (.iaload, 1) := by decide +kernel
theorem d_law_852 : decode code 852 = .ok (.aload_n 0, 1) := by decide +kernel
theorem d_law_853 : decode code 853 = .ok (.iload_n 3, 1) := by decide +kernel
theorem d_law_854 : decode code 854 = .ok (.iconst 2, 1) := by decide +kernel
theorem d_law_855 : decode code 855 = .ok (.iadd, 1) := by decide +kernel
theorem d_law_856 : decode code 856 = .ok (.iaload, 1) := by decide +kernel
theorem d_law_857 : decode code 857 = .ok (.aload_n 0, 1) := by decide +kernel
theorem d_law_858 : decode code 858 = .ok (.iload_n 3, 1) := by decide +kernel
theorem d_law_859 : decode code 859 = .ok (.iconst 3, 1) := by decide +kernel
theorem d_law_860 : decode code 860 = .ok (.iadd, 1) := by decide +kernel
theorem d_law_861 : decode code 861 = .ok (.iaload, 1) := by decide +kernel
theorem d_law_862 : decode code 862 = .ok (.invokevirtual 83, 3) := by decide +kernel
theorem d_law_865 : decode code 865 = .ok (.aload_n 2, 1) := by decide +kernel
theorem d_law_866 : decode code 866 = .ok (.aload_n 0, 1) := by decide +kernel
theorem d_law_867 : decode code 867 = .ok (.iload_n 3, 1) := by decide +kernel
theorem d_law_868 : decode code 868 = .ok (.iconst 1, 1) := by decide +kernel
theorem d_law_869 : decode code 869 = .ok (.iadd, 1) := by decide +kernel
theorem d_law_870 : decode code 870 = .ok (.iaload, 1) := by decide +kernel
theorem d_law_871 : decode code 871 = .ok (.aload_n 0, 1) := by decide +kernel
theorem d_law_872 : decode code 872 = .ok (.iload_n 3, 1) := by decide +kernel
theorem d_law_873 : decode code 873 = .ok (.iconst 2, 1) := by decide +kernel
theorem d_law_874 : decode code 874 = .ok (.iadd, 1) := by decide +kernel
theorem d_law_875 : decode code 875 = .ok (.iaload, 1) := by decide +kernel
theorem d_law_876 : decode code 876 = .ok (.aload_n 0, 1) := by decide +kernel
theorem d_law_877 : decode code 877 = .ok (.iload_n 3, 1) := by decide +kernel
theorem d_law_878 : decode code 878 = .ok (.iconst 3, 1) := by decide +kernel
theorem d_law_879 : decode code 879 = .ok (.iadd, 1) := by decide +kernel
theorem d_law_880 : decode code 880 = .ok (.iaload, 1) := by decide +kernel
theorem d_law_881 : decode code 881 = .ok (.invokevirtual 86, 3) := by decide +kernel
theorem d_law_884 : decode code 884 = .ok (.if_icmp .eq 412, 3) := by decide +kernel
theorem d_law_887 : decode code 887 = .ok (.iconst 0, 1) := by decide +kernel
theorem d_law_888 : decode code 888 = .ok (.ireturn, 1) := by decide +kernel
theorem d_law_889 : decode code 889 = .ok (.aload_n 1, 1) := by decide +kernel
theorem d_law_890 : decode code 890 = .ok (.aload_n 0, 1) := by decide +kernel
theorem d_law_891 : decode code 891 = .ok (.iload_n 3, 1) := by decide +kernel
theorem d_law_892 : decode code 892 = .ok (.iconst 1, 1) := by decide +kernel
theorem d_law_893 : decode code 893 = .ok (.iadd, 1) := by decide +kernel
theorem d_law_894 : decode code 894 = .ok (.iaload, 1) := by decide +kernel
theorem d_law_895 : decode code 895 = .ok (.aload_n 0, 1) := by decide +kernel
theorem d_law_896 : decode code 896 = .ok (.iload_n 3, 1) := by decide +kernel
theorem d_law_897 : decode code 897 = .ok (.iconst 2, 1) := by decide +kernel
theorem d_law_898 : decode code 898 = .ok (.iadd, 1) := by decide +kernel
theorem d_law_899 : decode code 899 = .ok (.iaload, 1) := by decide +kernel
theorem d_law_900 : decode code 900 = .ok (.aload_n 0, 1) := by decide +kernel
theorem d_law_901 : decode code 901 = .ok (.iload_n 3, 1) := by decide +kernel
theorem d_law_902 : decode code 902 = .ok (.iconst 3, 1) := by decide +kernel
theorem d_law_903 : decode code 903 = .ok (.iadd, 1) := by decide +kernel
theorem d_law_904 : decode code 904 = .ok (.iaload, 1) := by decide +kernel
theorem d_law_905 : decode code 905 = .ok (.aload_n 0, 1) := by decide +kernel
theorem d_law_906 : decode code 906 = .ok (.iload_n 3, 1) := by decide +kernel
theorem d_law_907 : decode code 907 = .ok (.iconst 4, 1) := by decide +kernel
theorem d_law_908 : decode code 908 = .ok (.iadd, 1) := by decide +kernel
theorem d_law_909 : decode code 909 = .ok (.iaload, 1) := by decide +kernel
theorem d_law_910 : decode code 910 = .ok (.aload_n 0, 1) := by decide +kernel
theorem d_law_911 : decode code 911 = .ok (.iload_n 3, 1) := by decide +kernel
theorem d_law_912 : decode code 912 = .ok (.iconst 5, 1) := by decide +kernel
theorem d_law_913 : decode code 913 = .ok (.iadd, 1) := by decide +kernel
theorem d_law_914 : decode code 914 = .ok (.iaload, 1) := by decide +kernel
theorem d_law_915 : decode code 915 = .ok (.invokevirtual 87, 3) := by decide +kernel
theorem d_law_918 : decode code 918 = .ok (.aload_n 2, 1) := by decide +kernel
theorem d_law_919 : decode code 919 = .ok (.aload_n 0, 1) := by decide +kernel
theorem d_law_920 : decode code 920 = .ok (.iload_n 3, 1) := by decide +kernel
theorem d_law_921 : decode code 921 = .ok (.iconst 1, 1) := by decide +kernel
theorem d_law_922 : decode code 922 = .ok (.iadd, 1) := by decide +kernel
theorem d_law_923 : decode code 923 = .ok (.iaload, 1) := by decide +kernel
theorem d_law_924 : decode code 924 = .ok (.aload_n 0, 1) := by decide +kernel
theorem d_law_925 : decode code 925 = .ok (.iload_n 3, 1) := by decide +kernel
theorem d_law_926 : decode code 926 = .ok (.iconst 2, 1) := by decide +kernel
theorem d_law_927 : decode code 927 = .ok (.iadd, 1) := by decide +kernel
theorem d_law_928 : decode code 928 = .ok (.iaload, 1) := by decide +kernel
theorem d_law_929 : decode code 929 = .ok (.aload_n 0, 1) := by decide +kernel
theorem d_law_930 : decode code 930 = .ok (.iload_n 3, 1) := by decide +kernel
theorem d_law_931 : decode code 931 = .ok (.iconst 3, 1) := by decide +kernel
theorem d_law_932 : decode code 932 = .ok (.iadd, 1) := by decide +kernel
theorem d_law_933 : decode code 933 = .ok (.iaload, 1) := by decide +kernel
theorem d_law_934 : decode code 934 = .ok (.aload_n 0, 1) := by decide +kernel
theorem d_law_935 : decode code 935 = .ok (.iload_n 3, 1) := by decide +kernel
theorem d_law_936 : decode code 936 = .ok (.iconst 4, 1) := by decide +kernel
theorem d_law_937 : decode code 937 = .ok (.iadd, 1) := by decide +kernel
theorem d_law_938 : decode code 938 = .ok (.iaload, 1) := by decide +kernel
theorem d_law_939 : decode code 939 = .ok (.aload_n 0, 1) := by decide +kernel
theorem d_law_940 : decode code 940 = .ok (.iload_n 3, 1) := by decide +kernel
theorem d_law_941 : decode code 941 = .ok (.iconst 5, 1) := by decide +kernel
theorem d_law_942 : decode code 942 = .ok (.iadd, 1) := by decide +kernel
theorem d_law_943 : decode code 943 = .ok (.iaload, 1) := by decide +kernel
theorem d_law_944 : decode code 944 = .ok (.invokevirtual 90, 3) := by decide +kernel
theorem d_law_947 : decode code 947 = .ok (.if_icmp .eq 349, 3) := by decide +kernel
theorem d_law_950 : decode code 950 = .ok (.iconst 0, 1) := by decide +kernel
theorem d_law_951 : decode code 951 = .ok (.ireturn, 1) := by decide +kernel
theorem d_law_952 : decode code 952 = .ok (.aload_n 1, 1) := by decide +kernel
theorem d_law_953 : decode code 953 = .ok (.aload_n 0, 1) := by decide +kernel
theorem d_law_954 : decode code 954 = .ok (.iload_n 3, 1) := by decide +kernel
theorem d_law_955 : decode code 955 = .ok (.iconst 1, 1) := by decide +kernel
theorem d_law_956 : decode code 956 = .ok (.iadd, 1) := by decide +kernel
theorem d_law_957 : decode code 957 = .ok (.iaload, 1) := by decide +kernel
theorem d_law_958 : decode code 958 = .ok (.aload_n 0, 1) := by decide +kernel
theorem d_law_959 : decode code 959 = .ok (.iload_n 3, 1) := by decide +kernel
theorem d_law_960 : decode code 960 = .ok (.iconst 2, 1) := by decide +kernel
theorem d_law_961 : decode code 961 = .ok (.iadd, 1) := by decide +kernel
theorem d_law_962 : decode code 962 = .ok (.iaload, 1) := by decide +kernel
theorem d_law_963 : decode code 963 = .ok (.aload_n 0, 1) := by decide +kernel
theorem d_law_964 : decode code 964 = .ok (.iload_n 3, 1) := by decide +kernel
theorem d_law_965 : decode code 965 = .ok (.iconst 3, 1) := by decide +kernel
theorem d_law_966 : decode code 966 = .ok (.iadd, 1) := by decide +kernel
theorem d_law_967 : decode code 967 = .ok (.iaload, 1) := by decide +kernel
theorem d_law_968 : decode code 968 = .ok (.invokevirtual 91, 3) := by decide +kernel
theorem d_law_971 : decode code 971 = .ok (.aload_n 2, 1) := by decide +kernel
theorem d_law_972 : decode code 972 = .ok (.aload_n 0, 1) := by decide +kernel
theorem d_law_973 : decode code 973 = .ok (.iload_n 3, 1) := by decide +kernel
theorem d_law_974 : decode code 974 = .ok (.iconst 1, 1) := by decide +kernel
theorem d_law_975 : decode code 975 = .ok (.iadd, 1) := by decide +kernel
theorem d_law_976 : decode code 976 = .ok (.iaload, 1) := by decide +kernel
theorem d_law_977 : decode code 977 = .ok (.aload_n 0, 1) := by decide +kernel
theorem d_law_978 : decode code 978 = .ok (.iload_n 3, 1) := by decide +kernel
theorem d_law_979 : decode code 979 = .ok (.iconst 2, 1) := by decide +kernel
theorem d_law_980 : decode code 980 = .ok (.iadd, 1) := by decide +kernel
theorem d_law_981 : decode code 981 = .ok (.iaload, 1) := by decide +kernel
theorem d_law_982 : decode code 982 = .ok (.aload_n 0, 1) := by decide +kernel
theorem d_law_983 : decode code 983 = .ok (.iload_n 3, 1) := by decide +kernel
theorem d_law_984 : decode code 984 = .ok (.iconst 3, 1) := by decide +kernel
theorem d_law_985 : decode code 985 = .ok (.iadd, 1) := by decide +kernel
theorem d_law_986 : decode code 986 = .ok (.iaload, 1) := by decide +kernel
theorem d_law_987 : decode code 987 = .ok (.invokevirtual 94, 3) := by decide +kernel
theorem d_law_990 : decode code 990 = .ok (.if_icmp .eq 306, 3) := by decide +kernel
theorem d_law_993 : decode code 993 = .ok (.iconst 0, 1) := by decide +kernel
theorem d_law_994 : decode code 994 = .ok (.ireturn, 1) := by decide +kernel
theorem d_law_995 : decode code 995 = .ok (.aload_n 1, 1) := by decide +kernel
theorem d_law_996 : decode code 996 = .ok (.aload_n 0, 1) := by decide +kernel
theorem d_law_997 : decode code 997 = .ok (.iload_n 3, 1) := by decide +kernel
theorem d_law_998 : decode code 998 = .ok (.iconst 1, 1) := by decide +kernel
theorem d_law_999 : decode code 999 = .ok (.iadd, 1) := by decide +kernel
theorem d_law_1000 : decode code 1000 = .ok (.iaload, 1) := by decide +kernel
theorem d_law_1001 : decode code 1001 = .ok (.invokevirtual 95, 3) := by decide +kernel
theorem d_law_1004 : decode code 1004 = .ok (.aload_n 2, 1) := by decide +kernel
theorem d_law_1005 : decode code 1005 = .ok (.aload_n 0, 1) := by decide +kernel
theorem d_law_1006 : decode code 1006 = .ok (.iload_n 3, 1) := by decide +kernel
theorem d_law_1007 : decode code 1007 = .ok (.iconst 1, 1) := by decide +kernel
theorem d_law_1008 : decode code 1008 = .ok (.iadd, 1) := by decide +kernel
theorem d_law_1009 : decode code 1009 = .ok (.iaload, 1) := by decide +kernel
theorem d_law_1010 : decode code 1010 = .ok (.invokevirtual 98, 3) := by decide +kernel
theorem d_law_1013 : decode code 1013 = .ok (.if_icmp .eq 283, 3) := by decide +kernel
theorem d_law_1016 : decode code 1016 = .ok (.iconst 0, 1) := by decide +kernel
theorem d_law_1017 : decode code 1017 = .ok (.ireturn, 1) := by decide +kernel
theorem d_law_1018 : decode code 1018 = .ok (.aload_n 1, 1) := by decide +kernel
theorem d_law_1019 : decode code 1019 = .ok (.aload_n 0, 1) := by decide +kernel
theorem d_law_1020 : decode code 1020 = .ok (.iload_n 3, 1) := by decide +kernel
theorem d_law_1021 : decode code 1021 = .ok (.iconst 1, 1) := by decide +kernel
theorem d_law_1022 : decode code 1022 = .ok (.iadd, 1) := by decide +kernel
theorem d_law_1023 : decode code 1023 = .ok (.iaload, 1) := by decide +kernel
theorem d_law_1024 : decode code 1024 = .ok (.aload_n 0, 1) := by decide +kernel
theorem d_law_1025 : decode code 1025 = .ok (.iload_n 3, 1) := by decide +kernel
theorem d_law_1026 : decode code 1026 = .ok (.iconst 2, 1) := by decide +kernel
theorem d_law_1027 : decode code 1027 = .ok (.iadd, 1) := by decide +kernel
theorem d_law_1028 : decode code 1028 = .ok (.iaload, 1) := by decide +kernel
theorem d_law_1029 : decode code 1029 = .ok (.aload_n 0, 1) := by decide +kernel
theorem d_law_1030 : decode code 1030 = .ok (.iload_n 3, 1) := by decide +kernel
theorem d_law_1031 : decode code 1031 = .ok (.iconst 3, 1) := by decide +kernel
theorem d_law_1032 : decode code 1032 = .ok (.iadd, 1) := by decide +kernel
theorem d_law_1033 : decode code 1033 = .ok (.iaload, 1) := by decide +kernel
theorem d_law_1034 : decode code 1034 = .ok (.invokevirtual 99, 3) := by decide +kernel
theorem d_law_1037 : decode code 1037 = .ok (.aload_n 2, 1) := by decide +kernel
theorem d_law_1038 : decode code 1038 = .ok (.aload_n 0, 1) := by decide +kernel
theorem d_law_1039 : decode code 1039 = .ok (.iload_n 3, 1) := by decide +kernel
theorem d_law_1040 : decode code 1040 = .ok (.iconst 1, 1) := by decide +kernel
theorem d_law_1041 : decode code 1041 = .ok (.iadd, 1) := by decide +kernel
theorem d_law_1042 : decode code 1042 = .ok (.iaload, 1) := by decide +kernel
theorem d_law_1043 : decode code 1043 = .ok (.aload_n 0, 1) := by decide +kernel
theorem d_law_1044 : decode code 1044 = .ok (.iload_n 3, 1) := by decide +kernel
theorem d_law_1045 : decode code 1045 = .ok (.iconst 2, 1) := by decide +kernel
theorem d_law_1046 : decode code 1046 = .ok (.iadd, 1) := by decide +kernel
theorem d_law_1047 : decode code 1047 = .ok (.iaload, 1) := by decide +kernel
theorem d_law_1048 : decode code 1048 = .ok (.aload_n 0, 1) := by decide +kernel
theorem d_law_1049 : decode code 1049 = .ok (.iload_n 3, 1) := by decide +kernel
theorem d_law_1050 : decode code 1050 = .ok (.iconst 3, 1) := by decide +kernel
theorem d_law_1051 : decode code 1051 = .ok (.iadd, 1) := by decide +kernel
theorem d_law_1052 : decode code 1052 = .ok (.iaload, 1) := by decide +kernel
theorem d_law_1053 : decode code 1053 = .ok (.invokevirtual 102, 3) := by decide +kernel
theorem d_law_1056 : decode code 1056 = .ok (.if_icmp .eq 240, 3) := by decide +kernel
theorem d_law_1059 : decode code 1059 = .ok (.iconst 0, 1) := by decide +kernel
theorem d_law_1060 : decode code 1060 = .ok (.ireturn, 1) := by decide +kernel
theorem d_law_1061 : decode code 1061 = .ok (.aload_n 1, 1) := by decide +kernel
theorem d_law_1062 : decode code 1062 = .ok (.aload_n 0, 1) := by decide +kernel
theorem d_law_1063 : decode code 1063 = .ok (.iload_n 3, 1) := by decide +kernel
theorem d_law_1064 : decode code 1064 = .ok (.iconst 1, 1) := by decide +kernel
theorem d_law_1065 : decode code 1065 = .ok (.iadd, 1) := by decide +kernel
theorem d_law_1066 : decode code 1066 = .ok (.iaload, 1) := by decide +kernel
theorem d_law_1067 : decode code 1067 = .ok (.aload_n 0, 1) := by decide +kernel
theorem d_law_1068 : decode code 1068 = .ok (.iload_n 3, 1) := by decide +kernel
theorem d_law_1069 : decode code 1069 = .ok (.iconst 2, 1) := by decide +kernel
theorem d_law_1070 : decode code 1070 = .ok (.iadd, 1) := by decide +kernel
theorem d_law_1071 : decode code 1071 = .ok (.iaload, 1) := by decide +kernel
theorem d_law_1072 : decode code 1072 = .ok (.aload_n 0, 1) := by decide +kernel
theorem d_law_1073 : decode code 1073 = .ok (.iload_n 3, 1) := by decide +kernel
theorem d_law_1074 : decode code 1074 = .ok (.iconst 3, 1) := by decide +kernel
theorem d_law_1075 : decode code 1075 = .ok (.iadd, 1) := by decide +kernel
theorem d_law_1076 : decode code 1076 = .ok (.iaload, 1) := by decide +kernel
theorem d_law_1077 : decode code 1077 = .ok (.invokevirtual 103, 3) := by decide +kernel
theorem d_law_1080 : decode code 1080 = .ok (.aload_n 2, 1) := by decide +kernel
theorem d_law_1081 : decode code 1081 = .ok (.aload_n 0, 1) := by decide +kernel
theorem d_law_1082 : decode code 1082 = .ok (.iload_n 3, 1) := by decide +kernel
theorem d_law_1083 : decode code 1083 = .ok (.iconst 1, 1) := by decide +kernel
theorem d_law_1084 : decode code 1084 = .ok (.iadd, 1) := by decide +kernel
theorem d_law_1085 : decode code 1085 = .ok (.iaload, 1) := by decide +kernel
theorem d_law_1086 : decode code 1086 = .ok (.aload_n 0, 1) := by decide +kernel
theorem d_law_1087 : decode code 1087 = .ok (.iload_n 3, 1) := by decide +kernel
theorem d_law_1088 : decode code 1088 = .ok (.iconst 2, 1) := by decide +kernel
theorem d_law_1089 : decode code 1089 = .ok (.iadd, 1) := by decide +kernel
theorem d_law_1090 : decode code 1090 = .ok (.iaload, 1) := by decide +kernel
theorem d_law_1091 : decode code 1091 = .ok (.aload_n 0, 1) := by decide +kernel
theorem d_law_1092 : decode code 1092 = .ok (.iload_n 3, 1) := by decide +kernel
theorem d_law_1093 : decode code 1093 = .ok (.iconst 3, 1) := by decide +kernel
theorem d_law_1094 : decode code 1094 = .ok (.iadd, 1) := by decide +kernel
theorem d_law_1095 : decode code 1095 = .ok (.iaload, 1) := by decide +kernel
theorem d_law_1096 : decode code 1096 = .ok (.invokevirtual 107, 3) := by decide +kernel
theorem d_law_1099 : decode code 1099 = .ok (.lcmp, 1) := by decide +kernel
theorem d_law_1100 : decode code 1100 = .ok (.ifCond .eq 196, 3) := by decide +kernel
theorem d_law_1103 : decode code 1103 = .ok (.iconst 0, 1) := by decide +kernel
theorem d_law_1104 : decode code 1104 = .ok (.ireturn, 1) := by decide +kernel
theorem d_law_1105 : decode code 1105 = .ok (.aload_n 1, 1) := by decide +kernel
theorem d_law_1106 : decode code 1106 = .ok (.aload_n 0, 1) := by decide +kernel
theorem d_law_1107 : decode code 1107 = .ok (.iload_n 3, 1) := by decide +kernel
theorem d_law_1108 : decode code 1108 = .ok (.iconst 1, 1) := by decide +kernel
theorem d_law_1109 : decode code 1109 = .ok (.iadd, 1) := by decide +kernel
theorem d_law_1110 : decode code 1110 = .ok (.iaload, 1) := by decide +kernel
theorem d_law_1111 : decode code 1111 = .ok (.aload_n 0, 1) := by decide +kernel
theorem d_law_1112 : decode code 1112 = .ok (.iload_n 3, 1) := by decide +kernel
theorem d_law_1113 : decode code 1113 = .ok (.iconst 2, 1) := by decide +kernel
theorem d_law_1114 : decode code 1114 = .ok (.iadd, 1) := by decide +kernel
theorem d_law_1115 : decode code 1115 = .ok (.iaload, 1) := by decide +kernel
theorem d_law_1116 : decode code 1116 = .ok (.aload_n 0, 1) := by decide +kernel
theorem d_law_1117 : decode code 1117 = .ok (.iload_n 3, 1) := by decide +kernel
theorem d_law_1118 : decode code 1118 = .ok (.iconst 3, 1) := by decide +kernel
theorem d_law_1119 : decode code 1119 = .ok (.iadd, 1) := by decide +kernel
theorem d_law_1120 : decode code 1120 = .ok (.iaload, 1) := by decide +kernel
theorem d_law_1121 : decode code 1121 = .ok (.aload_n 0, 1) := by decide +kernel
theorem d_law_1122 : decode code 1122 = .ok (.iload_n 3, 1) := by decide +kernel
theorem d_law_1123 : decode code 1123 = .ok (.iconst 4, 1) := by decide +kernel
theorem d_law_1124 : decode code 1124 = .ok (.iadd, 1) := by decide +kernel
theorem d_law_1125 : decode code 1125 = .ok (.iaload, 1) := by decide +kernel
theorem d_law_1126 : decode code 1126 = .ok (.aload_n 0, 1) := by decide +kernel
theorem d_law_1127 : decode code 1127 = .ok (.iload_n 3, 1) := by decide +kernel
theorem d_law_1128 : decode code 1128 = .ok (.iconst 5, 1) := by decide +kernel
theorem d_law_1129 : decode code 1129 = .ok (.iadd, 1) := by decide +kernel
theorem d_law_1130 : decode code 1130 = .ok (.iaload, 1) := by decide +kernel
theorem d_law_1131 : decode code 1131 = .ok (.invokevirtual 108, 3) := by decide +kernel
theorem d_law_1134 : decode code 1134 = .ok (.aload_n 2, 1) := by decide +kernel
theorem d_law_1135 : decode code 1135 = .ok (.aload_n 0, 1) := by decide +kernel
theorem d_law_1136 : decode code 1136 = .ok (.iload_n 3, 1) := by decide +kernel
theorem d_law_1137 : decode code 1137 = .ok (.iconst 1, 1) := by decide +kernel
theorem d_law_1138 : decode code 1138 = .ok (.iadd, 1) := by decide +kernel
theorem d_law_1139 : decode code 1139 = .ok (.iaload, 1) := by decide +kernel
theorem d_law_1140 : decode code 1140 = .ok (.aload_n 0, 1) := by decide +kernel
theorem d_law_1141 : decode code 1141 = .ok (.iload_n 3, 1) := by decide +kernel
theorem d_law_1142 : decode code 1142 = .ok (.iconst 2, 1) := by decide +kernel
theorem d_law_1143 : decode code 1143 = .ok (.iadd, 1) := by decide +kernel
theorem d_law_1144 : decode code 1144 = .ok (.iaload, 1) := by decide +kernel
theorem d_law_1145 : decode code 1145 = .ok (.aload_n 0, 1) := by decide +kernel
theorem d_law_1146 : decode code 1146 = .ok (.iload_n 3, 1) := by decide +kernel
theorem d_law_1147 : decode code 1147 = .ok (.iconst 3, 1) := by decide +kernel
theorem d_law_1148 : decode code 1148 = .ok (.iadd, 1) := by decide +kernel
theorem d_law_1149 : decode code 1149 = .ok (.iaload, 1) := by decide +kernel
theorem d_law_1150 : decode code 1150 = .ok (.aload_n 0, 1) := by decide +kernel
theorem d_law_1151 : decode code 1151 = .ok (.iload_n 3, 1) := by decide +kernel
theorem d_law_1152 : decode code 1152 = .ok (.iconst 4, 1) := by decide +kernel
theorem d_law_1153 : decode code 1153 = .ok (.iadd, 1) := by decide +kernel
theorem d_law_1154 : decode code 1154 = .ok (.iaload, 1) := by decide +kernel
theorem d_law_1155 : decode code 1155 = .ok (.aload_n 0, 1) := by decide +kernel
theorem d_law_1156 : decode code 1156 = .ok (.iload_n 3, 1) := by decide +kernel
theorem d_law_1157 : decode code 1157 = .ok (.iconst 5, 1) := by decide +kernel
theorem d_law_1158 : decode code 1158 = .ok (.iadd, 1) := by decide +kernel
theorem d_law_1159 : decode code 1159 = .ok (.iaload, 1) := by decide +kernel
theorem d_law_1160 : decode code 1160 = .ok (.invokevirtual 111, 3) := by decide +kernel
theorem d_law_1163 : decode code 1163 = .ok (.if_icmp .eq 133, 3) := by decide +kernel
theorem d_law_1166 : decode code 1166 = .ok (.iconst 0, 1) := by decide +kernel
theorem d_law_1167 : decode code 1167 = .ok (.ireturn, 1) := by decide +kernel
theorem d_law_1168 : decode code 1168 = .ok (.aload_n 1, 1) := by decide +kernel
theorem d_law_1169 : decode code 1169 = .ok (.aload_n 0, 1) := by decide +kernel
theorem d_law_1170 : decode code 1170 = .ok (.iload_n 3, 1) := by decide +kernel
theorem d_law_1171 : decode code 1171 = .ok (.iconst 1, 1) := by decide +kernel
theorem d_law_1172 : decode code 1172 = .ok (.iadd, 1) := by decide +kernel
theorem d_law_1173 : decode code 1173 = .ok (.iaload, 1) := by decide +kernel
theorem d_law_1174 : decode code 1174 = .ok (.invokevirtual 112, 3) := by decide +kernel
theorem d_law_1177 : decode code 1177 = .ok (.aload_n 2, 1) := by decide +kernel
theorem d_law_1178 : decode code 1178 = .ok (.aload_n 0, 1) := by decide +kernel
theorem d_law_1179 : decode code 1179 = .ok (.iload_n 3, 1) := by decide +kernel
theorem d_law_1180 : decode code 1180 = .ok (.iconst 1, 1) := by decide +kernel
theorem d_law_1181 : decode code 1181 = .ok (.iadd, 1) := by decide +kernel
theorem d_law_1182 : decode code 1182 = .ok (.iaload, 1) := by decide +kernel
theorem d_law_1183 : decode code 1183 = .ok (.invokevirtual 115, 3) := by decide +kernel
theorem d_law_1186 : decode code 1186 = .ok (.if_icmp .eq 110, 3) := by decide +kernel
theorem d_law_1189 : decode code 1189 = .ok (.iconst 0, 1) := by decide +kernel
theorem d_law_1190 : decode code 1190 = .ok (.ireturn, 1) := by decide +kernel
theorem d_law_1191 : decode code 1191 = .ok (.aload_n 1, 1) := by decide +kernel
theorem d_law_1192 : decode code 1192 = .ok (.aload_n 0, 1) := by decide +kernel
theorem d_law_1193 : decode code 1193 = .ok (.iload_n 3, 1) := by decide +kernel
theorem d_law_1194 : decode code 1194 = .ok (.iconst 1, 1) := by decide +kernel
theorem d_law_1195 : decode code 1195 = .ok (.iadd, 1) := by decide +kernel
theorem d_law_1196 : decode code 1196 = .ok (.iaload, 1) := by decide +kernel
theorem d_law_1197 : decode code 1197 = .ok (.invokevirtual 116, 3) := by decide +kernel
theorem d_law_1200 : decode code 1200 = .ok (.aload_n 2, 1) := by decide +kernel
theorem d_law_1201 : decode code 1201 = .ok (.aload_n 0, 1) := by decide +kernel
theorem d_law_1202 : decode code 1202 = .ok (.iload_n 3, 1) := by decide +kernel
theorem d_law_1203 : decode code 1203 = .ok (.iconst 1, 1) := by decide +kernel
theorem d_law_1204 : decode code 1204 = .ok (.iadd, 1) := by decide +kernel
theorem d_law_1205 : decode code 1205 = .ok (.iaload, 1) := by decide +kernel
theorem d_law_1206 : decode code 1206 = .ok (.invokevirtual 119, 3) := by decide +kernel
theorem d_law_1209 : decode code 1209 = .ok (.if_icmp .eq 87, 3) := by decide +kernel
theorem d_law_1212 : decode code 1212 = .ok (.iconst 0, 1) := by decide +kernel
theorem d_law_1213 : decode code 1213 = .ok (.ireturn, 1) := by decide +kernel
theorem d_law_1214 : decode code 1214 = .ok (.aload_n 1, 1) := by decide +kernel
theorem d_law_1215 : decode code 1215 = .ok (.aload_n 0, 1) := by decide +kernel
theorem d_law_1216 : decode code 1216 = .ok (.iload_n 3, 1) := by decide +kernel
theorem d_law_1217 : decode code 1217 = .ok (.iconst 1, 1) := by decide +kernel
theorem d_law_1218 : decode code 1218 = .ok (.iadd, 1) := by decide +kernel
theorem d_law_1219 : decode code 1219 = .ok (.iaload, 1) := by decide +kernel
theorem d_law_1220 : decode code 1220 = .ok (.aload_n 0, 1) := by decide +kernel
theorem d_law_1221 : decode code 1221 = .ok (.iload_n 3, 1) := by decide +kernel
theorem d_law_1222 : decode code 1222 = .ok (.iconst 2, 1) := by decide +kernel
theorem d_law_1223 : decode code 1223 = .ok (.iadd, 1) := by decide +kernel
theorem d_law_1224 : decode code 1224 = .ok (.iaload, 1) := by decide +kernel
theorem d_law_1225 : decode code 1225 = .ok (.invokevirtual 120, 3) := by decide +kernel
theorem d_law_1228 : decode code 1228 = .ok (.aload_n 2, 1) := by decide +kernel
theorem d_law_1229 : decode code 1229 = .ok (.aload_n 0, 1) := by decide +kernel
theorem d_law_1230 : decode code 1230 = .ok (.iload_n 3, 1) := by decide +kernel
theorem d_law_1231 : decode code 1231 = .ok (.iconst 1, 1) := by decide +kernel
theorem d_law_1232 : decode code 1232 = .ok (.iadd, 1) := by decide +kernel
theorem d_law_1233 : decode code 1233 = .ok (.iaload, 1) := by decide +kernel
theorem d_law_1234 : decode code 1234 = .ok (.aload_n 0, 1) := by decide +kernel
theorem d_law_1235 : decode code 1235 = .ok (.iload_n 3, 1) := by decide +kernel
theorem d_law_1236 : decode code 1236 = .ok (.iconst 2, 1) := by decide +kernel
theorem d_law_1237 : decode code 1237 = .ok (.iadd, 1) := by decide +kernel
theorem d_law_1238 : decode code 1238 = .ok (.iaload, 1) := by decide +kernel
theorem d_law_1239 : decode code 1239 = .ok (.invokevirtual 123, 3) := by decide +kernel
theorem d_law_1242 : decode code 1242 = .ok (.if_icmp .eq 54, 3) := by decide +kernel
theorem d_law_1245 : decode code 1245 = .ok (.iconst 0, 1) := by decide +kernel
theorem d_law_1246 : decode code 1246 = .ok (.ireturn, 1) := by decide +kernel
theorem d_law_1247 : decode code 1247 = .ok (.aload_n 1, 1) := by decide +kernel
theorem d_law_1248 : decode code 1248 = .ok (.invokevirtual 124, 3) := by decide +kernel
theorem d_law_1251 : decode code 1251 = .ok (.aload_n 2, 1) := by decide +kernel
theorem d_law_1252 : decode code 1252 = .ok (.invokevirtual 128, 3) := by decide +kernel
theorem d_law_1255 : decode code 1255 = .ok (.if_icmp .eq 41, 3) := by decide +kernel
theorem d_law_1258 : decode code 1258 = .ok (.iconst 0, 1) := by decide +kernel
theorem d_law_1259 : decode code 1259 = .ok (.ireturn, 1) := by decide +kernel
theorem d_law_1260 : decode code 1260 = .ok (.aload_n 1, 1) := by decide +kernel
theorem d_law_1261 : decode code 1261 = .ok (.invokevirtual 129, 3) := by decide +kernel
theorem d_law_1264 : decode code 1264 = .ok (.aload_n 2, 1) := by decide +kernel
theorem d_law_1265 : decode code 1265 = .ok (.invokevirtual 132, 3) := by decide +kernel
theorem d_law_1268 : decode code 1268 = .ok (.if_icmp .eq 28, 3) := by decide +kernel
theorem d_law_1271 : decode code 1271 = .ok (.iconst 0, 1) := by decide +kernel
theorem d_law_1272 : decode code 1272 = .ok (.ireturn, 1) := by decide +kernel
theorem d_law_1273 : decode code 1273 = .ok (.aload_n 1, 1) := by decide +kernel
theorem d_law_1274 : decode code 1274 = .ok (.aload_n 0, 1) := by decide +kernel
theorem d_law_1275 : decode code 1275 = .ok (.iload_n 3, 1) := by decide +kernel
theorem d_law_1276 : decode code 1276 = .ok (.iconst 1, 1) := by decide +kernel
theorem d_law_1277 : decode code 1277 = .ok (.iadd, 1) := by decide +kernel
theorem d_law_1278 : decode code 1278 = .ok (.iaload, 1) := by decide +kernel
theorem d_law_1279 : decode code 1279 = .ok (.invokevirtual 133, 3) := by decide +kernel
theorem d_law_1282 : decode code 1282 = .ok (.aload_n 2, 1) := by decide +kernel
theorem d_law_1283 : decode code 1283 = .ok (.aload_n 0, 1) := by decide +kernel
theorem d_law_1284 : decode code 1284 = .ok (.iload_n 3, 1) := by decide +kernel
theorem d_law_1285 : decode code 1285 = .ok (.iconst 1, 1) := by decide +kernel
theorem d_law_1286 : decode code 1286 = .ok (.iadd, 1) := by decide +kernel
theorem d_law_1287 : decode code 1287 = .ok (.iaload, 1) := by decide +kernel
theorem d_law_1288 : decode code 1288 = .ok (.invokevirtual 136, 3) := by decide +kernel
theorem d_law_1291 : decode code 1291 = .ok (.if_icmp .eq 5, 3) := by decide +kernel
theorem d_law_1294 : decode code 1294 = .ok (.iconst 0, 1) := by decide +kernel
theorem d_law_1295 : decode code 1295 = .ok (.ireturn, 1) := by decide +kernel
theorem d_law_1296 : decode code 1296 = .ok (.iinc 3 8, 3) := by decide +kernel
theorem d_law_1299 : decode code 1299 = .ok (.goto (-1281), 3) := by decide +kernel
theorem d_law_1302 : decode code 1302 = .ok (.iconst 1, 1) := by decide +kernel
theorem d_law_1303 : decode code 1303 = .ok (.ireturn, 1) := by decide +kernel
