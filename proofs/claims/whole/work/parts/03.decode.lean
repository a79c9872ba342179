/-! what stands at each place of each method (printed by wip/gen/names.py) -/
theorem d_AP_init_0 : decode b_AP_init 0 = .ok (.aload_n 0, 1) := by decide +kernel
theorem d_AP_init_1 : decode b_AP_init 1 = .ok (.invokespecial 3, 3) := by decide +kernel
theorem d_AP_init_4 : decode b_AP_init 4 = .ok (.aload_n 0, 1) := by decide +kernel
theorem d_AP_init_5 : decode b_AP_init 5 = .ok (.iconst 4, 1) := by decide +kernel
theorem d_AP_init_6 : decode b_AP_init 6 = .ok (.anewarray 11, 3) := by decide +kernel
theorem d_AP_init_9 : decode b_AP_init 9 = .ok (.putfield 13, 3) := by decide +kernel
theorem d_AP_init_12 : decode b_AP_init 12 = .ok (.iconst 0, 1) := by decide +kernel
theorem d_AP_init_13 : decode b_AP_init 13 = .ok (.istore_n 1, 1) := by decide +kernel
theorem d_AP_init_14 : decode b_AP_init 14 = .ok (.iload_n 1, 1) := by decide +kernel
theorem d_AP_init_15 : decode b_AP_init 15 = .ok (.iconst 4, 1) := by decide +kernel
theorem d_AP_init_16 : decode b_AP_init 16 = .ok (.if_icmp .ge 22, 3) := by decide +kernel
theorem d_AP_init_19 : decode b_AP_init 19 = .ok (.aload_n 0, 1) := by decide +kernel
theorem d_AP_init_20 : decode b_AP_init 20 = .ok (.getfield 13, 3) := by decide +kernel
theorem d_AP_init_23 : decode b_AP_init 23 = .ok (.iload_n 1, 1) := by decide +kernel
theorem d_AP_init_24 : decode b_AP_init 24 = .ok (.new 11, 3) := by decide +kernel
theorem d_AP_init_27 : decode b_AP_init 27 = .ok (.dup, 1) := by decide +kernel
theorem d_AP_init_28 : decode b_AP_init 28 = .ok (.invokespecial 17, 3) := by decide +kernel
theorem d_AP_init_31 : decode b_AP_init 31 = .ok (.aastore, 1) := by decide +kernel
theorem d_AP_init_32 : decode b_AP_init 32 = .ok (.iinc 1 1, 3) := by decide +kernel
theorem d_AP_init_35 : decode b_AP_init 35 = .ok (.goto (-21), 3) := by decide +kernel
theorem d_AP_init_38 : decode b_AP_init 38 = .ok (.aload_n 0, 1) := by decide +kernel
theorem d_AP_init_39 : decode b_AP_init 39 = .ok (.bipush 6, 2) := by decide +kernel
theorem d_AP_init_41 : decode b_AP_init 41 = .ok (.anewarray 18, 3) := by decide +kernel
theorem d_AP_init_44 : decode b_AP_init 44 = .ok (.putfield 20, 3) := by decide +kernel
theorem d_AP_init_47 : decode b_AP_init 47 = .ok (.aload_n 0, 1) := by decide +kernel
theorem d_AP_init_48 : decode b_AP_init 48 = .ok (.new 24, 3) := by decide +kernel
theorem d_AP_init_51 : decode b_AP_init 51 = .ok (.dup, 1) := by decide +kernel
theorem d_AP_init_52 : decode b_AP_init 52 = .ok (.invokespecial 26, 3) := by decide +kernel
theorem d_AP_init_55 : decode b_AP_init 55 = .ok (.putfield 27, 3) := by decide +kernel
theorem d_AP_init_58 : decode b_AP_init 58 = .ok (.aload_n 0, 1) := by decide +kernel
theorem d_AP_init_59 : decode b_AP_init 59 = .ok (.new 31, 3) := by decide +kernel
theorem d_AP_init_62 : decode b_AP_init 62 = .ok (.dup, 1) := by decide +kernel
theorem d_AP_init_63 : decode b_AP_init 63 = .ok (.invokespecial 33, 3) := by decide +kernel
theorem d_AP_init_66 : decode b_AP_init 66 = .ok (.putfield 34, 3) := by decide +kernel
theorem d_AP_init_69 : decode b_AP_init 69 = .ok (.aload_n 0, 1) := by decide +kernel
theorem d_AP_init_70 : decode b_AP_init 70 = .ok (.new 38, 3) := by decide +kernel
theorem d_AP_init_73 : decode b_AP_init 73 = .ok (.dup, 1) := by decide +kernel
theorem d_AP_init_74 : decode b_AP_init 74 = .ok (.invokespecial 40, 3) := by decide +kernel
theorem d_AP_init_77 : decode b_AP_init 77 = .ok (.putfield 41, 3) := by decide +kernel
theorem d_AP_init_80 : decode b_AP_init 80 = .ok (.aload_n 0, 1) := by decide +kernel
theorem d_AP_init_81 : decode b_AP_init 81 = .ok (.new 45, 3) := by decide +kernel
theorem d_AP_init_84 : decode b_AP_init 84 = .ok (.dup, 1) := by decide +kernel
theorem d_AP_init_85 : decode b_AP_init 85 = .ok (.invokespecial 47, 3) := by decide +kernel
theorem d_AP_init_88 : decode b_AP_init 88 = .ok (.putfield 48, 3) := by decide +kernel
theorem d_AP_init_91 : decode b_AP_init 91 = .ok (.aload_n 0, 1) := by decide +kernel
theorem d_AP_init_92 : decode b_AP_init 92 = .ok (.new 52, 3) := by decide +kernel
theorem d_AP_init_95 : decode b_AP_init 95 = .ok (.dup, 1) := by decide +kernel
theorem d_AP_init_96 : decode b_AP_init 96 = .ok (.invokespecial 54, 3) := by decide +kernel
theorem d_AP_init_99 : decode b_AP_init 99 = .ok (.putfield 55, 3) := by decide +kernel
theorem d_AP_init_102 : decode b_AP_init 102 = .ok (.return_, 1) := by decide +kernel
theorem d_AP_post_0 : decode b_AP_post 0 = .ok (.aload_n 0, 1) := by decide +kernel
theorem d_AP_post_1 : decode b_AP_post 1 = .ok (.iconst 0, 1) := by decide +kernel
theorem d_AP_post_2 : decode b_AP_post 2 = .ok (.putfield 59, 3) := by decide +kernel
theorem d_AP_post_5 : decode b_AP_post 5 = .ok (.aload_n 0, 1) := by decide +kernel
theorem d_AP_post_6 : decode b_AP_post 6 = .ok (.iload_n 1, 1) := by decide +kernel
theorem d_AP_post_7 : decode b_AP_post 7 = .ok (.invokevirtual 63, 3) := by decide +kernel
theorem d_AP_post_10 : decode b_AP_post 10 = .ok (.astore 5, 2) := by decide +kernel
theorem d_AP_post_12 : decode b_AP_post 12 = .ok (.aload 5, 2) := by decide +kernel
theorem d_AP_post_14 : decode b_AP_post 14 = .ok (.ifnonnull 5, 3) := by decide +kernel
theorem d_AP_post_17 : decode b_AP_post 17 = .ok (.iconst (-1), 1) := by decide +kernel
theorem d_AP_post_18 : decode b_AP_post 18 = .ok (.ireturn, 1) := by decide +kernel
theorem d_AP_post_19 : decode b_AP_post 19 = .ok (.iload_n 2, 1) := by decide +kernel
theorem d_AP_post_20 : decode b_AP_post 20 = .ok (.iconst 0, 1) := by decide +kernel
theorem d_AP_post_21 : decode b_AP_post 21 = .ok (.iconst 2, 1) := by decide +kernel
theorem d_AP_post_22 : decode b_AP_post 22 = .ok (.invokestatic 67, 3) := by decide +kernel
theorem d_AP_post_25 : decode b_AP_post 25 = .ok (.ifCond .ne 6, 3) := by decide +kernel
theorem d_AP_post_28 : decode b_AP_post 28 = .ok (.bipush (-2), 2) := by decide +kernel
theorem d_AP_post_30 : decode b_AP_post 30 = .ok (.ireturn, 1) := by decide +kernel
theorem d_AP_post_31 : decode b_AP_post 31 = .ok (.aload 5, 2) := by decide +kernel
theorem d_AP_post_33 : decode b_AP_post 33 = .ok (.iload_n 2, 1) := by decide +kernel
theorem d_AP_post_34 : decode b_AP_post 34 = .ok (.iload_n 3, 1) := by decide +kernel
theorem d_AP_post_35 : decode b_AP_post 35 = .ok (.iload 4, 2) := by decide +kernel
theorem d_AP_post_37 : decode b_AP_post 37 = .ok (.invokevirtual 71, 3) := by decide +kernel
theorem d_AP_post_40 : decode b_AP_post 40 = .ok (.istore 6, 2) := by decide +kernel
theorem d_AP_post_42 : decode b_AP_post 42 = .ok (.iload 6, 2) := by decide +kernel
theorem d_AP_post_44 : decode b_AP_post 44 = .ok (.ifCond .eq 10, 3) := by decide +kernel
theorem d_AP_post_47 : decode b_AP_post 47 = .ok (.aload_n 0, 1) := by decide +kernel
theorem d_AP_post_48 : decode b_AP_post 48 = .ok (.iload 6, 2) := by decide +kernel
theorem d_AP_post_50 : decode b_AP_post 50 = .ok (.invokevirtual 75, 3) := by decide +kernel
theorem d_AP_post_53 : decode b_AP_post 53 = .ok (.ireturn, 1) := by decide +kernel
theorem d_AP_post_54 : decode b_AP_post 54 = .ok (.aload 5, 2) := by decide +kernel
theorem d_AP_post_56 : decode b_AP_post 56 = .ok (.getfield 79, 3) := by decide +kernel
theorem d_AP_post_59 : decode b_AP_post 59 = .ok (.iload_n 3, 1) := by decide +kernel
theorem d_AP_post_60 : decode b_AP_post 60 = .ok (.iload 4, 2) := by decide +kernel
theorem d_AP_post_62 : decode b_AP_post 62 = .ok (.invokestatic 83, 3) := by decide +kernel
theorem d_AP_post_65 : decode b_AP_post 65 = .ok (.istore 7, 2) := by decide +kernel
theorem d_AP_post_67 : decode b_AP_post 67 = .ok (.iload 7, 2) := by decide +kernel
theorem d_AP_post_69 : decode b_AP_post 69 = .ok (.bipush (-9), 2) := by decide +kernel
theorem d_AP_post_71 : decode b_AP_post 71 = .ok (.if_icmp .eq 9, 3) := by decide +kernel
theorem d_AP_post_74 : decode b_AP_post 74 = .ok (.bipush (-100), 2) := by decide +kernel
theorem d_AP_post_76 : decode b_AP_post 76 = .ok (.iload 7, 2) := by decide +kernel
theorem d_AP_post_78 : decode b_AP_post 78 = .ok (.isub, 1) := by decide +kernel
theorem d_AP_post_79 : decode b_AP_post 79 = .ok (.ireturn, 1) := by decide +kernel
theorem d_AP_post_80 : decode b_AP_post 80 = .ok (.aload_n 0, 1) := by decide +kernel
theorem d_AP_post_81 : decode b_AP_post 81 = .ok (.aload 5, 2) := by decide +kernel
theorem d_AP_post_83 : decode b_AP_post 83 = .ok (.getfield 79, 3) := by decide +kernel
theorem d_AP_post_86 : decode b_AP_post 86 = .ok (.iload_n 3, 1) := by decide +kernel
theorem d_AP_post_87 : decode b_AP_post 87 = .ok (.iload 4, 2) := by decide +kernel
theorem d_AP_post_89 : decode b_AP_post 89 = .ok (.invokevirtual 89, 3) := by decide +kernel
theorem d_AP_post_92 : decode b_AP_post 92 = .ok (.aload_n 0, 1) := by decide +kernel
theorem d_AP_post_93 : decode b_AP_post 93 = .ok (.getfield 93, 3) := by decide +kernel
theorem d_AP_post_96 : decode b_AP_post 96 = .ok (.ireturn, 1) := by decide +kernel
theorem d_AP_ofPerson_0 : decode b_AP_ofPerson 0 = .ok (.aload_n 0, 1) := by decide +kernel
theorem d_AP_ofPerson_1 : decode b_AP_ofPerson 1 = .ok (.iload_n 1, 1) := by decide +kernel
theorem d_AP_ofPerson_2 : decode b_AP_ofPerson 2 = .ok (.invokevirtual 96, 3) := by decide +kernel
theorem d_AP_ofPerson_5 : decode b_AP_ofPerson 5 = .ok (.astore_n 3, 1) := by decide +kernel
theorem d_AP_ofPerson_6 : decode b_AP_ofPerson 6 = .ok (.aload_n 3, 1) := by decide +kernel
theorem d_AP_ofPerson_7 : decode b_AP_ofPerson 7 = .ok (.ifnonnull 5, 3) := by decide +kernel
theorem d_AP_ofPerson_10 : decode b_AP_ofPerson 10 = .ok (.iconst (-1), 1) := by decide +kernel
theorem d_AP_ofPerson_11 : decode b_AP_ofPerson 11 = .ok (.ireturn, 1) := by decide +kernel
theorem d_AP_ofPerson_12 : decode b_AP_ofPerson 12 = .ok (.iload_n 2, 1) := by decide +kernel
theorem d_AP_ofPerson_13 : decode b_AP_ofPerson 13 = .ok (.iconst 0, 1) := by decide +kernel
theorem d_AP_ofPerson_14 : decode b_AP_ofPerson 14 = .ok (.iconst 1, 1) := by decide +kernel
theorem d_AP_ofPerson_15 : decode b_AP_ofPerson 15 = .ok (.invokestatic 67, 3) := by decide +kernel
theorem d_AP_ofPerson_18 : decode b_AP_ofPerson 18 = .ok (.ifCond .ne 6, 3) := by decide +kernel
theorem d_AP_ofPerson_21 : decode b_AP_ofPerson 21 = .ok (.bipush (-2), 2) := by decide +kernel
theorem d_AP_ofPerson_23 : decode b_AP_ofPerson 23 = .ok (.ireturn, 1) := by decide +kernel
theorem d_AP_ofPerson_24 : decode b_AP_ofPerson 24 = .ok (.iload_n 2, 1) := by decide +kernel
theorem d_AP_ofPerson_25 : decode b_AP_ofPerson 25 = .ok (.ifCond .ne 10, 3) := by decide +kernel
theorem d_AP_ofPerson_28 : decode b_AP_ofPerson 28 = .ok (.aload_n 3, 1) := by decide +kernel
theorem d_AP_ofPerson_29 : decode b_AP_ofPerson 29 = .ok (.invokevirtual 100, 3) := by decide +kernel
theorem d_AP_ofPerson_32 : decode b_AP_ofPerson 32 = .ok (.goto 7, 3) := by decide +kernel
theorem d_AP_ofPerson_35 : decode b_AP_ofPerson 35 = .ok (.aload_n 3, 1) := by decide +kernel
theorem d_AP_ofPerson_36 : decode b_AP_ofPerson 36 = .ok (.getfield 104, 3) := by decide +kernel
theorem d_AP_ofPerson_39 : decode b_AP_ofPerson 39 = .ok (.ireturn, 1) := by decide +kernel
theorem d_AP_scale_0 : decode b_AP_scale 0 = .ok (.aload_n 0, 1) := by decide +kernel
theorem d_AP_scale_1 : decode b_AP_scale 1 = .ok (.iload_n 1, 1) := by decide +kernel
theorem d_AP_scale_2 : decode b_AP_scale 2 = .ok (.invokevirtual 96, 3) := by decide +kernel
theorem d_AP_scale_5 : decode b_AP_scale 5 = .ok (.astore_n 3, 1) := by decide +kernel
theorem d_AP_scale_6 : decode b_AP_scale 6 = .ok (.aload_n 3, 1) := by decide +kernel
theorem d_AP_scale_7 : decode b_AP_scale 7 = .ok (.ifnonnull 5, 3) := by decide +kernel
theorem d_AP_scale_10 : decode b_AP_scale 10 = .ok (.iconst (-1), 1) := by decide +kernel
theorem d_AP_scale_11 : decode b_AP_scale 11 = .ok (.ireturn, 1) := by decide +kernel
theorem d_AP_scale_12 : decode b_AP_scale 12 = .ok (.iload_n 2, 1) := by decide +kernel
theorem d_AP_scale_13 : decode b_AP_scale 13 = .ok (.iconst 1, 1) := by decide +kernel
theorem d_AP_scale_14 : decode b_AP_scale 14 = .ok (.bipush 99, 2) := by decide +kernel
theorem d_AP_scale_16 : decode b_AP_scale 16 = .ok (.invokestatic 67, 3) := by decide +kernel
theorem d_AP_scale_19 : decode b_AP_scale 19 = .ok (.ifCond .ne 6, 3) := by decide +kernel
theorem d_AP_scale_22 : decode b_AP_scale 22 = .ok (.bipush (-2), 2) := by decide +kernel
theorem d_AP_scale_24 : decode b_AP_scale 24 = .ok (.ireturn, 1) := by decide +kernel
theorem d_AP_scale_25 : decode b_AP_scale 25 = .ok (.aload_n 3, 1) := by decide +kernel
theorem d_AP_scale_26 : decode b_AP_scale 26 = .ok (.iload_n 2, 1) := by decide +kernel
theorem d_AP_scale_27 : decode b_AP_scale 27 = .ok (.invokevirtual 107, 3) := by decide +kernel
theorem d_AP_scale_30 : decode b_AP_scale 30 = .ok (.ireturn, 1) := by decide +kernel
theorem d_AP_law_0 : decode b_AP_law 0 = .ok (.iload_n 1, 1) := by decide +kernel
theorem d_AP_law_1 : decode b_AP_law 1 = .ok (.iconst 0, 1) := by decide +kernel
theorem d_AP_law_2 : decode b_AP_law 2 = .ok (.iconst 2, 1) := by decide +kernel
theorem d_AP_law_3 : decode b_AP_law 3 = .ok (.invokestatic 67, 3) := by decide +kernel
theorem d_AP_law_6 : decode b_AP_law 6 = .ok (.ifCond .ne 6, 3) := by decide +kernel
theorem d_AP_law_9 : decode b_AP_law 9 = .ok (.bipush (-2), 2) := by decide +kernel
theorem d_AP_law_11 : decode b_AP_law 11 = .ok (.ireturn, 1) := by decide +kernel
theorem d_AP_law_12 : decode b_AP_law 12 = .ok (.aload_n 0, 1) := by decide +kernel
theorem d_AP_law_13 : decode b_AP_law 13 = .ok (.getfield 93, 3) := by decide +kernel
theorem d_AP_law_16 : decode b_AP_law 16 = .ok (.ifCond .ne 6, 3) := by decide +kernel
theorem d_AP_law_19 : decode b_AP_law 19 = .ok (.bipush (-3), 2) := by decide +kernel
theorem d_AP_law_21 : decode b_AP_law 21 = .ok (.ireturn, 1) := by decide +kernel
theorem d_AP_law_22 : decode b_AP_law 22 = .ok (.aload_n 0, 1) := by decide +kernel
theorem d_AP_law_23 : decode b_AP_law 23 = .ok (.getfield 110, 3) := by decide +kernel
theorem d_AP_law_26 : decode b_AP_law 26 = .ok (.istore_n 2, 1) := by decide +kernel
theorem d_AP_law_27 : decode b_AP_law 27 = .ok (.aload_n 0, 1) := by decide +kernel
theorem d_AP_law_28 : decode b_AP_law 28 = .ok (.iload_n 1, 1) := by decide +kernel
theorem d_AP_law_29 : decode b_AP_law 29 = .ok (.putfield 110, 3) := by decide +kernel
theorem d_AP_law_32 : decode b_AP_law 32 = .ok (.iload_n 2, 1) := by decide +kernel
theorem d_AP_law_33 : decode b_AP_law 33 = .ok (.ireturn, 1) := by decide +kernel
theorem d_AP_send_0 : decode b_AP_send 0 = .ok (.aload_n 0, 1) := by decide +kernel
theorem d_AP_send_1 : decode b_AP_send 1 = .ok (.iload_n 1, 1) := by decide +kernel
theorem d_AP_send_2 : decode b_AP_send 2 = .ok (.invokevirtual 96, 3) := by decide +kernel
theorem d_AP_send_5 : decode b_AP_send 5 = .ok (.astore 5, 2) := by decide +kernel
theorem d_AP_send_7 : decode b_AP_send 7 = .ok (.aload 5, 2) := by decide +kernel
theorem d_AP_send_9 : decode b_AP_send 9 = .ok (.ifnull 16, 3) := by decide +kernel
theorem d_AP_send_12 : decode b_AP_send 12 = .ok (.aload_n 0, 1) := by decide +kernel
theorem d_AP_send_13 : decode b_AP_send 13 = .ok (.iload_n 2, 1) := by decide +kernel
theorem d_AP_send_14 : decode b_AP_send 14 = .ok (.invokevirtual 96, 3) := by decide +kernel
theorem d_AP_send_17 : decode b_AP_send 17 = .ok (.ifnull 8, 3) := by decide +kernel
theorem d_AP_send_20 : decode b_AP_send 20 = .ok (.iload_n 1, 1) := by decide +kernel
theorem d_AP_send_21 : decode b_AP_send 21 = .ok (.iload_n 2, 1) := by decide +kernel
theorem d_AP_send_22 : decode b_AP_send 22 = .ok (.if_icmp .ne 5, 3) := by decide +kernel
theorem d_AP_send_25 : decode b_AP_send 25 = .ok (.iconst (-1), 1) := by decide +kernel
theorem d_AP_send_26 : decode b_AP_send 26 = .ok (.ireturn, 1) := by decide +kernel
theorem d_AP_send_27 : decode b_AP_send 27 = .ok (.iload_n 3, 1) := by decide +kernel
theorem d_AP_send_28 : decode b_AP_send 28 = .ok (.iconst 1, 1) := by decide +kernel
theorem d_AP_send_29 : decode b_AP_send 29 = .ok (.bipush 99, 2) := by decide +kernel
theorem d_AP_send_31 : decode b_AP_send 31 = .ok (.invokestatic 67, 3) := by decide +kernel
theorem d_AP_send_34 : decode b_AP_send 34 = .ok (.ifCond .eq 11, 3) := by decide +kernel
theorem d_AP_send_37 : decode b_AP_send 37 = .ok (.iload 4, 2) := by decide +kernel
theorem d_AP_send_39 : decode b_AP_send 39 = .ok (.invokestatic 113, 3) := by decide +kernel
theorem d_AP_send_42 : decode b_AP_send 42 = .ok (.ifCond .ne 6, 3) := by decide +kernel
theorem d_AP_send_45 : decode b_AP_send 45 = .ok (.bipush (-2), 2) := by decide +kernel
theorem d_AP_send_47 : decode b_AP_send 47 = .ok (.ireturn, 1) := by decide +kernel
theorem d_AP_send_48 : decode b_AP_send 48 = .ok (.aload_n 0, 1) := by decide +kernel
theorem d_AP_send_49 : decode b_AP_send 49 = .ok (.getfield 27, 3) := by decide +kernel
theorem d_AP_send_52 : decode b_AP_send 52 = .ok (.invokevirtual 117, 3) := by decide +kernel
theorem d_AP_send_55 : decode b_AP_send 55 = .ok (.ifCond .eq 6, 3) := by decide +kernel
theorem d_AP_send_58 : decode b_AP_send 58 = .ok (.bipush (-4), 2) := by decide +kernel
theorem d_AP_send_60 : decode b_AP_send 60 = .ok (.ireturn, 1) := by decide +kernel
theorem d_AP_send_61 : decode b_AP_send 61 = .ok (.aload_n 0, 1) := by decide +kernel
theorem d_AP_send_62 : decode b_AP_send 62 = .ok (.getfield 27, 3) := by decide +kernel
theorem d_AP_send_65 : decode b_AP_send 65 = .ok (.aload 5, 2) := by decide +kernel
theorem d_AP_send_67 : decode b_AP_send 67 = .ok (.iload_n 2, 1) := by decide +kernel
theorem d_AP_send_68 : decode b_AP_send 68 = .ok (.iload_n 3, 1) := by decide +kernel
theorem d_AP_send_69 : decode b_AP_send 69 = .ok (.iload 4, 2) := by decide +kernel
theorem d_AP_send_71 : decode b_AP_send 71 = .ok (.invokevirtual 121, 3) := by decide +kernel
theorem d_AP_send_74 : decode b_AP_send 74 = .ok (.ireturn, 1) := by decide +kernel
theorem d_AP_answer_0 : decode b_AP_answer 0 = .ok (.aload_n 0, 1) := by decide +kernel
theorem d_AP_answer_1 : decode b_AP_answer 1 = .ok (.getfield 27, 3) := by decide +kernel
theorem d_AP_answer_4 : decode b_AP_answer 4 = .ok (.iload_n 1, 1) := by decide +kernel
theorem d_AP_answer_5 : decode b_AP_answer 5 = .ok (.invokevirtual 125, 3) := by decide +kernel
theorem d_AP_answer_8 : decode b_AP_answer 8 = .ok (.ifCond .ne 5, 3) := by decide +kernel
theorem d_AP_answer_11 : decode b_AP_answer 11 = .ok (.iconst (-1), 1) := by decide +kernel
theorem d_AP_answer_12 : decode b_AP_answer 12 = .ok (.ireturn, 1) := by decide +kernel
theorem d_AP_answer_13 : decode b_AP_answer 13 = .ok (.iload_n 2, 1) := by decide +kernel
theorem d_AP_answer_14 : decode b_AP_answer 14 = .ok (.iconst 1, 1) := by decide +kernel
theorem d_AP_answer_15 : decode b_AP_answer 15 = .ok (.bipush 99, 2) := by decide +kernel
theorem d_AP_answer_17 : decode b_AP_answer 17 = .ok (.invokestatic 67, 3) := by decide +kernel
theorem d_AP_answer_20 : decode b_AP_answer 20 = .ok (.ifCond .eq 23, 3) := by decide +kernel
theorem d_AP_answer_23 : decode b_AP_answer 23 = .ok (.iload_n 3, 1) := by decide +kernel
theorem d_AP_answer_24 : decode b_AP_answer 24 = .ok (.invokestatic 113, 3) := by decide +kernel
theorem d_AP_answer_27 : decode b_AP_answer 27 = .ok (.ifCond .eq 16, 3) := by decide +kernel
theorem d_AP_answer_30 : decode b_AP_answer 30 = .ok (.iload_n 3, 1) := by decide +kernel
theorem d_AP_answer_31 : decode b_AP_answer 31 = .ok (.aload_n 0, 1) := by decide +kernel
theorem d_AP_answer_32 : decode b_AP_answer 32 = .ok (.getfield 27, 3) := by decide +kernel
theorem d_AP_answer_35 : decode b_AP_answer 35 = .ok (.getfield 128, 3) := by decide +kernel
theorem d_AP_answer_38 : decode b_AP_answer 38 = .ok (.iload_n 1, 1) := by decide +kernel
theorem d_AP_answer_39 : decode b_AP_answer 39 = .ok (.iaload, 1) := by decide +kernel
theorem d_AP_answer_40 : decode b_AP_answer 40 = .ok (.if_icmp .ge 6, 3) := by decide +kernel
theorem d_AP_answer_43 : decode b_AP_answer 43 = .ok (.bipush (-2), 2) := by decide +kernel
theorem d_AP_answer_45 : decode b_AP_answer 45 = .ok (.ireturn, 1) := by decide +kernel
theorem d_AP_answer_46 : decode b_AP_answer 46 = .ok (.aload_n 0, 1) := by decide +kernel
theorem d_AP_answer_47 : decode b_AP_answer 47 = .ok (.getfield 27, 3) := by decide +kernel
theorem d_AP_answer_50 : decode b_AP_answer 50 = .ok (.iload_n 1, 1) := by decide +kernel
theorem d_AP_answer_51 : decode b_AP_answer 51 = .ok (.invokevirtual 131, 3) := by decide +kernel
theorem d_AP_answer_54 : decode b_AP_answer 54 = .ok (.ifCond .eq 6, 3) := by decide +kernel
theorem d_AP_answer_57 : decode b_AP_answer 57 = .ok (.bipush (-3), 2) := by decide +kernel
theorem d_AP_answer_59 : decode b_AP_answer 59 = .ok (.ireturn, 1) := by decide +kernel
theorem d_AP_answer_60 : decode b_AP_answer 60 = .ok (.aload_n 0, 1) := by decide +kernel
theorem d_AP_answer_61 : decode b_AP_answer 61 = .ok (.getfield 27, 3) := by decide +kernel
theorem d_AP_answer_64 : decode b_AP_answer 64 = .ok (.invokevirtual 117, 3) := by decide +kernel
theorem d_AP_answer_67 : decode b_AP_answer 67 = .ok (.ifCond .eq 6, 3) := by decide +kernel
theorem d_AP_answer_70 : decode b_AP_answer 70 = .ok (.bipush (-4), 2) := by decide +kernel
theorem d_AP_answer_72 : decode b_AP_answer 72 = .ok (.ireturn, 1) := by decide +kernel
theorem d_AP_answer_73 : decode b_AP_answer 73 = .ok (.aload_n 0, 1) := by decide +kernel
theorem d_AP_answer_74 : decode b_AP_answer 74 = .ok (.aload_n 0, 1) := by decide +kernel
theorem d_AP_answer_75 : decode b_AP_answer 75 = .ok (.getfield 27, 3) := by decide +kernel
theorem d_AP_answer_78 : decode b_AP_answer 78 = .ok (.getfield 134, 3) := by decide +kernel
theorem d_AP_answer_81 : decode b_AP_answer 81 = .ok (.iload_n 1, 1) := by decide +kernel
theorem d_AP_answer_82 : decode b_AP_answer 82 = .ok (.iaload, 1) := by decide +kernel
theorem d_AP_answer_83 : decode b_AP_answer 83 = .ok (.invokevirtual 96, 3) := by decide +kernel
theorem d_AP_answer_86 : decode b_AP_answer 86 = .ok (.astore 4, 2) := by decide +kernel
theorem d_AP_answer_88 : decode b_AP_answer 88 = .ok (.aload 4, 2) := by decide +kernel
theorem d_AP_answer_90 : decode b_AP_answer 90 = .ok (.ifnonnull 5, 3) := by decide +kernel
theorem d_AP_answer_93 : decode b_AP_answer 93 = .ok (.iconst (-1), 1) := by decide +kernel
theorem d_AP_answer_94 : decode b_AP_answer 94 = .ok (.ireturn, 1) := by decide +kernel
theorem d_AP_answer_95 : decode b_AP_answer 95 = .ok (.aload_n 0, 1) := by decide +kernel
theorem d_AP_answer_96 : decode b_AP_answer 96 = .ok (.getfield 27, 3) := by decide +kernel
theorem d_AP_answer_99 : decode b_AP_answer 99 = .ok (.aload 4, 2) := by decide +kernel
theorem d_AP_answer_101 : decode b_AP_answer 101 = .ok (.aload_n 0, 1) := by decide +kernel
theorem d_AP_answer_102 : decode b_AP_answer 102 = .ok (.getfield 27, 3) := by decide +kernel
theorem d_AP_answer_105 : decode b_AP_answer 105 = .ok (.getfield 137, 3) := by decide +kernel
theorem d_AP_answer_108 : decode b_AP_answer 108 = .ok (.iload_n 1, 1) := by decide +kernel
theorem d_AP_answer_109 : decode b_AP_answer 109 = .ok (.iaload, 1) := by decide +kernel
theorem d_AP_answer_110 : decode b_AP_answer 110 = .ok (.iload_n 2, 1) := by decide +kernel
theorem d_AP_answer_111 : decode b_AP_answer 111 = .ok (.iload_n 3, 1) := by decide +kernel
theorem d_AP_answer_112 : decode b_AP_answer 112 = .ok (.invokevirtual 121, 3) := by decide +kernel
theorem d_AP_answer_115 : decode b_AP_answer 115 = .ok (.istore 5, 2) := by decide +kernel
theorem d_AP_answer_117 : decode b_AP_answer 117 = .ok (.aload_n 0, 1) := by decide +kernel
theorem d_AP_answer_118 : decode b_AP_answer 118 = .ok (.getfield 27, 3) := by decide +kernel
theorem d_AP_answer_121 : decode b_AP_answer 121 = .ok (.iload_n 1, 1) := by decide +kernel
theorem d_AP_answer_122 : decode b_AP_answer 122 = .ok (.iload 5, 2) := by decide +kernel
theorem d_AP_answer_124 : decode b_AP_answer 124 = .ok (.invokevirtual 140, 3) := by decide +kernel
theorem d_AP_answer_127 : decode b_AP_answer 127 = .ok (.iload 5, 2) := by decide +kernel
theorem d_AP_answer_129 : decode b_AP_answer 129 = .ok (.ireturn, 1) := by decide +kernel
theorem d_AP_ofLetter_0 : decode b_AP_ofLetter 0 = .ok (.aload_n 0, 1) := by decide +kernel
theorem d_AP_ofLetter_1 : decode b_AP_ofLetter 1 = .ok (.getfield 27, 3) := by decide +kernel
theorem d_AP_ofLetter_4 : decode b_AP_ofLetter 4 = .ok (.iload_n 1, 1) := by decide +kernel
theorem d_AP_ofLetter_5 : decode b_AP_ofLetter 5 = .ok (.invokevirtual 125, 3) := by decide +kernel
theorem d_AP_ofLetter_8 : decode b_AP_ofLetter 8 = .ok (.ifCond .ne 5, 3) := by decide +kernel
theorem d_AP_ofLetter_11 : decode b_AP_ofLetter 11 = .ok (.iconst (-1), 1) := by decide +kernel
theorem d_AP_ofLetter_12 : decode b_AP_ofLetter 12 = .ok (.ireturn, 1) := by decide +kernel
theorem d_AP_ofLetter_13 : decode b_AP_ofLetter 13 = .ok (.iload_n 2, 1) := by decide +kernel
theorem d_AP_ofLetter_14 : decode b_AP_ofLetter 14 = .ok (.tableswitch 112 0 6 #[42, 52, 62, 72, 82, 92, 102], 42) := by decide +kernel
theorem d_AP_ofLetter_56 : decode b_AP_ofLetter 56 = .ok (.aload_n 0, 1) := by decide +kernel
theorem d_AP_ofLetter_57 : decode b_AP_ofLetter 57 = .ok (.getfield 27, 3) := by decide +kernel
theorem d_AP_ofLetter_60 : decode b_AP_ofLetter 60 = .ok (.getfield 137, 3) := by decide +kernel
theorem d_AP_ofLetter_63 : decode b_AP_ofLetter 63 = .ok (.iload_n 1, 1) := by decide +kernel
theorem d_AP_ofLetter_64 : decode b_AP_ofLetter 64 = .ok (.iaload, 1) := by decide +kernel
theorem d_AP_ofLetter_65 : decode b_AP_ofLetter 65 = .ok (.ireturn, 1) := by decide +kernel
theorem d_AP_ofLetter_66 : decode b_AP_ofLetter 66 = .ok (.aload_n 0, 1) := by decide +kernel
theorem d_AP_ofLetter_67 : decode b_AP_ofLetter 67 = .ok (.getfield 27, 3) := by decide +kernel
theorem d_AP_ofLetter_70 : decode b_AP_ofLetter 70 = .ok (.getfield 134, 3) := by decide +kernel
theorem d_AP_ofLetter_73 : decode b_AP_ofLetter 73 = .ok (.iload_n 1, 1) := by decide +kernel
theorem d_AP_ofLetter_74 : decode b_AP_ofLetter 74 = .ok (.iaload, 1) := by decide +kernel
theorem d_AP_ofLetter_75 : decode b_AP_ofLetter 75 = .ok (.ireturn, 1) := by decide +kernel
theorem d_AP_ofLetter_76 : decode b_AP_ofLetter 76 = .ok (.aload_n 0, 1) := by decide +kernel
theorem d_AP_ofLetter_77 : decode b_AP_ofLetter 77 = .ok (.getfield 27, 3) := by decide +kernel
theorem d_AP_ofLetter_80 : decode b_AP_ofLetter 80 = .ok (.getfield 144, 3) := by decide +kernel
theorem d_AP_ofLetter_83 : decode b_AP_ofLetter 83 = .ok (.iload_n 1, 1) := by decide +kernel
theorem d_AP_ofLetter_84 : decode b_AP_ofLetter 84 = .ok (.iaload, 1) := by decide +kernel
theorem d_AP_ofLetter_85 : decode b_AP_ofLetter 85 = .ok (.ireturn, 1) := by decide +kernel
theorem d_AP_ofLetter_86 : decode b_AP_ofLetter 86 = .ok (.aload_n 0, 1) := by decide +kernel
theorem d_AP_ofLetter_87 : decode b_AP_ofLetter 87 = .ok (.getfield 27, 3) := by decide +kernel
theorem d_AP_ofLetter_90 : decode b_AP_ofLetter 90 = .ok (.getfield 128, 3) := by decide +kernel
theorem d_AP_ofLetter_93 : decode b_AP_ofLetter 93 = .ok (.iload_n 1, 1) := by decide +kernel
theorem d_AP_ofLetter_94 : decode b_AP_ofLetter 94 = .ok (.iaload, 1) := by decide +kernel
theorem d_AP_ofLetter_95 : decode b_AP_ofLetter 95 = .ok (.ireturn, 1) := by decide +kernel
theorem d_AP_ofLetter_96 : decode b_AP_ofLetter 96 = .ok (.aload_n 0, 1) := by decide +kernel
theorem d_AP_ofLetter_97 : decode b_AP_ofLetter 97 = .ok (.getfield 27, 3) := by decide +kernel
theorem d_AP_ofLetter_100 : decode b_AP_ofLetter 100 = .ok (.getfield 147, 3) := by decide +kernel
theorem d_AP_ofLetter_103 : decode b_AP_ofLetter 103 = .ok (.iload_n 1, 1) := by decide +kernel
theorem d_AP_ofLetter_104 : decode b_AP_ofLetter 104 = .ok (.iaload, 1) := by decide +kernel
theorem d_AP_ofLetter_105 : decode b_AP_ofLetter 105 = .ok (.ireturn, 1) := by decide +kernel
theorem d_AP_ofLetter_106 : decode b_AP_ofLetter 106 = .ok (.aload_n 0, 1) := by decide +kernel
theorem d_AP_ofLetter_107 : decode b_AP_ofLetter 107 = .ok (.getfield 27, 3) := by decide +kernel
theorem d_AP_ofLetter_110 : decode b_AP_ofLetter 110 = .ok (.getfield 150, 3) := by decide +kernel
theorem d_AP_ofLetter_113 : decode b_AP_ofLetter 113 = .ok (.iload_n 1, 1) := by decide +kernel
theorem d_AP_ofLetter_114 : decode b_AP_ofLetter 114 = .ok (.iaload, 1) := by decide +kernel
theorem d_AP_ofLetter_115 : decode b_AP_ofLetter 115 = .ok (.ireturn, 1) := by decide +kernel
theorem d_AP_ofLetter_116 : decode b_AP_ofLetter 116 = .ok (.aload_n 0, 1) := by decide +kernel
theorem d_AP_ofLetter_117 : decode b_AP_ofLetter 117 = .ok (.getfield 27, 3) := by decide +kernel
theorem d_AP_ofLetter_120 : decode b_AP_ofLetter 120 = .ok (.getfield 153, 3) := by decide +kernel
theorem d_AP_ofLetter_123 : decode b_AP_ofLetter 123 = .ok (.iload_n 1, 1) := by decide +kernel
theorem d_AP_ofLetter_124 : decode b_AP_ofLetter 124 = .ok (.iaload, 1) := by decide +kernel
theorem d_AP_ofLetter_125 : decode b_AP_ofLetter 125 = .ok (.ireturn, 1) := by decide +kernel
theorem d_AP_ofLetter_126 : decode b_AP_ofLetter 126 = .ok (.bipush (-2), 2) := by decide +kernel
theorem d_AP_ofLetter_128 : decode b_AP_ofLetter 128 = .ok (.ireturn, 1) := by decide +kernel
theorem d_AP_burn_0 : decode b_AP_burn 0 = .ok (.iload_n 1, 1) := by decide +kernel
theorem d_AP_burn_1 : decode b_AP_burn 1 = .ok (.iconst 0, 1) := by decide +kernel
theorem d_AP_burn_2 : decode b_AP_burn 2 = .ok (.aload_n 0, 1) := by decide +kernel
theorem d_AP_burn_3 : decode b_AP_burn 3 = .ok (.getfield 27, 3) := by decide +kernel
theorem d_AP_burn_6 : decode b_AP_burn 6 = .ok (.getfield 156, 3) := by decide +kernel
theorem d_AP_burn_9 : decode b_AP_burn 9 = .ok (.invokestatic 67, 3) := by decide +kernel
theorem d_AP_burn_12 : decode b_AP_burn 12 = .ok (.ifCond .ne 6, 3) := by decide +kernel
theorem d_AP_burn_15 : decode b_AP_burn 15 = .ok (.bipush (-2), 2) := by decide +kernel
theorem d_AP_burn_17 : decode b_AP_burn 17 = .ok (.ireturn, 1) := by decide +kernel
theorem d_AP_burn_18 : decode b_AP_burn 18 = .ok (.aload_n 0, 1) := by decide +kernel
theorem d_AP_burn_19 : decode b_AP_burn 19 = .ok (.getfield 27, 3) := by decide +kernel
theorem d_AP_burn_22 : decode b_AP_burn 22 = .ok (.iload_n 1, 1) := by decide +kernel
theorem d_AP_burn_23 : decode b_AP_burn 23 = .ok (.invokevirtual 159, 3) := by decide +kernel
theorem d_AP_burn_26 : decode b_AP_burn 26 = .ok (.aload_n 0, 1) := by decide +kernel
theorem d_AP_burn_27 : decode b_AP_burn 27 = .ok (.getfield 27, 3) := by decide +kernel
theorem d_AP_burn_30 : decode b_AP_burn 30 = .ok (.getfield 156, 3) := by decide +kernel
theorem d_AP_burn_33 : decode b_AP_burn 33 = .ok (.ireturn, 1) := by decide +kernel
theorem d_AP_paid_0 : decode b_AP_paid 0 = .ok (.aload_n 0, 1) := by decide +kernel
theorem d_AP_paid_1 : decode b_AP_paid 1 = .ok (.iload_n 1, 1) := by decide +kernel
theorem d_AP_paid_2 : decode b_AP_paid 2 = .ok (.invokevirtual 96, 3) := by decide +kernel
theorem d_AP_paid_5 : decode b_AP_paid 5 = .ok (.ifnonnull 5, 3) := by decide +kernel
theorem d_AP_paid_8 : decode b_AP_paid 8 = .ok (.iconst (-1), 1) := by decide +kernel
theorem d_AP_paid_9 : decode b_AP_paid 9 = .ok (.ireturn, 1) := by decide +kernel
theorem d_AP_paid_10 : decode b_AP_paid 10 = .ok (.iload_n 2, 1) := by decide +kernel
theorem d_AP_paid_11 : decode b_AP_paid 11 = .ok (.invokestatic 113, 3) := by decide +kernel
theorem d_AP_paid_14 : decode b_AP_paid 14 = .ok (.ifCond .ne 6, 3) := by decide +kernel
theorem d_AP_paid_17 : decode b_AP_paid 17 = .ok (.bipush (-2), 2) := by decide +kernel
theorem d_AP_paid_19 : decode b_AP_paid 19 = .ok (.ireturn, 1) := by decide +kernel
theorem d_AP_paid_20 : decode b_AP_paid 20 = .ok (.aload_n 0, 1) := by decide +kernel
theorem d_AP_paid_21 : decode b_AP_paid 21 = .ok (.getfield 27, 3) := by decide +kernel
theorem d_AP_paid_24 : decode b_AP_paid 24 = .ok (.iload_n 1, 1) := by decide +kernel
theorem d_AP_paid_25 : decode b_AP_paid 25 = .ok (.iload_n 2, 1) := by decide +kernel
theorem d_AP_paid_26 : decode b_AP_paid 26 = .ok (.aload_n 0, 1) := by decide +kernel
theorem d_AP_paid_27 : decode b_AP_paid 27 = .ok (.getfield 110, 3) := by decide +kernel
theorem d_AP_paid_30 : decode b_AP_paid 30 = .ok (.invokevirtual 163, 3) := by decide +kernel
theorem d_AP_paid_33 : decode b_AP_paid 33 = .ok (.ireturn, 1) := by decide +kernel
theorem d_AP_owes_0 : decode b_AP_owes 0 = .ok (.aload_n 0, 1) := by decide +kernel
theorem d_AP_owes_1 : decode b_AP_owes 1 = .ok (.iload_n 1, 1) := by decide +kernel
theorem d_AP_owes_2 : decode b_AP_owes 2 = .ok (.invokevirtual 96, 3) := by decide +kernel
theorem d_AP_owes_5 : decode b_AP_owes 5 = .ok (.ifnull 11, 3) := by decide +kernel
theorem d_AP_owes_8 : decode b_AP_owes 8 = .ok (.aload_n 0, 1) := by decide +kernel
theorem d_AP_owes_9 : decode b_AP_owes 9 = .ok (.iload_n 2, 1) := by decide +kernel
theorem d_AP_owes_10 : decode b_AP_owes 10 = .ok (.invokevirtual 96, 3) := by decide +kernel
theorem d_AP_owes_13 : decode b_AP_owes 13 = .ok (.ifnonnull 5, 3) := by decide +kernel
theorem d_AP_owes_16 : decode b_AP_owes 16 = .ok (.iconst (-1), 1) := by decide +kernel
theorem d_AP_owes_17 : decode b_AP_owes 17 = .ok (.ireturn, 1) := by decide +kernel
theorem d_AP_owes_18 : decode b_AP_owes 18 = .ok (.iload_n 3, 1) := by decide +kernel
theorem d_AP_owes_19 : decode b_AP_owes 19 = .ok (.invokestatic 113, 3) := by decide +kernel
theorem d_AP_owes_22 : decode b_AP_owes 22 = .ok (.ifCond .ne 6, 3) := by decide +kernel
theorem d_AP_owes_25 : decode b_AP_owes 25 = .ok (.bipush (-2), 2) := by decide +kernel
theorem d_AP_owes_27 : decode b_AP_owes 27 = .ok (.ireturn, 1) := by decide +kernel
theorem d_AP_owes_28 : decode b_AP_owes 28 = .ok (.aload_n 0, 1) := by decide +kernel
theorem d_AP_owes_29 : decode b_AP_owes 29 = .ok (.getfield 27, 3) := by decide +kernel
theorem d_AP_owes_32 : decode b_AP_owes 32 = .ok (.iload_n 1, 1) := by decide +kernel
theorem d_AP_owes_33 : decode b_AP_owes 33 = .ok (.iload_n 2, 1) := by decide +kernel
theorem d_AP_owes_34 : decode b_AP_owes 34 = .ok (.iload_n 3, 1) := by decide +kernel
theorem d_AP_owes_35 : decode b_AP_owes 35 = .ok (.invokevirtual 166, 3) := by decide +kernel
theorem d_AP_owes_38 : decode b_AP_owes 38 = .ok (.ireturn, 1) := by decide +kernel
theorem d_AP_net_0 : decode b_AP_net 0 = .ok (.aload_n 0, 1) := by decide +kernel
theorem d_AP_net_1 : decode b_AP_net 1 = .ok (.iload_n 1, 1) := by decide +kernel
theorem d_AP_net_2 : decode b_AP_net 2 = .ok (.invokevirtual 96, 3) := by decide +kernel
theorem d_AP_net_5 : decode b_AP_net 5 = .ok (.ifnonnull 5, 3) := by decide +kernel
theorem d_AP_net_8 : decode b_AP_net 8 = .ok (.iconst (-1), 1) := by decide +kernel
theorem d_AP_net_9 : decode b_AP_net 9 = .ok (.ireturn, 1) := by decide +kernel
theorem d_AP_net_10 : decode b_AP_net 10 = .ok (.iload_n 2, 1) := by decide +kernel
theorem d_AP_net_11 : decode b_AP_net 11 = .ok (.invokestatic 113, 3) := by decide +kernel
theorem d_AP_net_14 : decode b_AP_net 14 = .ok (.ifCond .ne 6, 3) := by decide +kernel
theorem d_AP_net_17 : decode b_AP_net 17 = .ok (.bipush (-2), 2) := by decide +kernel
theorem d_AP_net_19 : decode b_AP_net 19 = .ok (.ireturn, 1) := by decide +kernel
theorem d_AP_net_20 : decode b_AP_net 20 = .ok (.aload_n 0, 1) := by decide +kernel
theorem d_AP_net_21 : decode b_AP_net 21 = .ok (.getfield 27, 3) := by decide +kernel
theorem d_AP_net_24 : decode b_AP_net 24 = .ok (.iload_n 1, 1) := by decide +kernel
theorem d_AP_net_25 : decode b_AP_net 25 = .ok (.iload_n 2, 1) := by decide +kernel
theorem d_AP_net_26 : decode b_AP_net 26 = .ok (.invokevirtual 169, 3) := by decide +kernel
theorem d_AP_net_29 : decode b_AP_net 29 = .ok (.ldc 173, 2) := by decide +kernel
theorem d_AP_net_31 : decode b_AP_net 31 = .ok (.iadd, 1) := by decide +kernel
theorem d_AP_net_32 : decode b_AP_net 32 = .ok (.ireturn, 1) := by decide +kernel
theorem d_AP_settled_0 : decode b_AP_settled 0 = .ok (.iload_n 1, 1) := by decide +kernel
theorem d_AP_settled_1 : decode b_AP_settled 1 = .ok (.invokestatic 113, 3) := by decide +kernel
theorem d_AP_settled_4 : decode b_AP_settled 4 = .ok (.ifCond .ne 6, 3) := by decide +kernel
theorem d_AP_settled_7 : decode b_AP_settled 7 = .ok (.bipush (-2), 2) := by decide +kernel
theorem d_AP_settled_9 : decode b_AP_settled 9 = .ok (.ireturn, 1) := by decide +kernel
theorem d_AP_settled_10 : decode b_AP_settled 10 = .ok (.aload_n 0, 1) := by decide +kernel
theorem d_AP_settled_11 : decode b_AP_settled 11 = .ok (.getfield 93, 3) := by decide +kernel
theorem d_AP_settled_14 : decode b_AP_settled 14 = .ok (.ifCond .ne 6, 3) := by decide +kernel
theorem d_AP_settled_17 : decode b_AP_settled 17 = .ok (.bipush (-3), 2) := by decide +kernel
theorem d_AP_settled_19 : decode b_AP_settled 19 = .ok (.ireturn, 1) := by decide +kernel
theorem d_AP_settled_20 : decode b_AP_settled 20 = .ok (.aload_n 0, 1) := by decide +kernel
theorem d_AP_settled_21 : decode b_AP_settled 21 = .ok (.getfield 34, 3) := by decide +kernel
theorem d_AP_settled_24 : decode b_AP_settled 24 = .ok (.invokevirtual 174, 3) := by decide +kernel
theorem d_AP_settled_27 : decode b_AP_settled 27 = .ok (.iconst 0, 1) := by decide +kernel
theorem d_AP_settled_28 : decode b_AP_settled 28 = .ok (.istore_n 2, 1) := by decide +kernel
theorem d_AP_settled_29 : decode b_AP_settled 29 = .ok (.iload_n 2, 1) := by decide +kernel
theorem d_AP_settled_30 : decode b_AP_settled 30 = .ok (.aload_n 0, 1) := by decide +kernel
theorem d_AP_settled_31 : decode b_AP_settled 31 = .ok (.getfield 93, 3) := by decide +kernel
theorem d_AP_settled_34 : decode b_AP_settled 34 = .ok (.if_icmp .ge 25, 3) := by decide +kernel
theorem d_AP_settled_37 : decode b_AP_settled 37 = .ok (.aload_n 0, 1) := by decide +kernel
theorem d_AP_settled_38 : decode b_AP_settled 38 = .ok (.getfield 34, 3) := by decide +kernel
theorem d_AP_settled_41 : decode b_AP_settled 41 = .ok (.aload_n 0, 1) := by decide +kernel
theorem d_AP_settled_42 : decode b_AP_settled 42 = .ok (.getfield 27, 3) := by decide +kernel
theorem d_AP_settled_45 : decode b_AP_settled 45 = .ok (.iload_n 2, 1) := by decide +kernel
theorem d_AP_settled_46 : decode b_AP_settled 46 = .ok (.iload_n 1, 1) := by decide +kernel
theorem d_AP_settled_47 : decode b_AP_settled 47 = .ok (.invokevirtual 169, 3) := by decide +kernel
theorem d_AP_settled_50 : decode b_AP_settled 50 = .ok (.invokevirtual 177, 3) := by decide +kernel
theorem d_AP_settled_53 : decode b_AP_settled 53 = .ok (.iinc 2 1, 3) := by decide +kernel
theorem d_AP_settled_56 : decode b_AP_settled 56 = .ok (.goto (-27), 3) := by decide +kernel
theorem d_AP_settled_59 : decode b_AP_settled 59 = .ok (.aload_n 0, 1) := by decide +kernel
theorem d_AP_settled_60 : decode b_AP_settled 60 = .ok (.getfield 34, 3) := by decide +kernel
theorem d_AP_settled_63 : decode b_AP_settled 63 = .ok (.invokevirtual 180, 3) := by decide +kernel
theorem d_AP_settled_66 : decode b_AP_settled 66 = .ok (.ireturn, 1) := by decide +kernel
theorem d_AP_best_0 : decode b_AP_best 0 = .ok (.aload_n 0, 1) := by decide +kernel
theorem d_AP_best_1 : decode b_AP_best 1 = .ok (.iload_n 1, 1) := by decide +kernel
theorem d_AP_best_2 : decode b_AP_best 2 = .ok (.invokevirtual 96, 3) := by decide +kernel
theorem d_AP_best_5 : decode b_AP_best 5 = .ok (.astore 4, 2) := by decide +kernel
theorem d_AP_best_7 : decode b_AP_best 7 = .ok (.aload 4, 2) := by decide +kernel
theorem d_AP_best_9 : decode b_AP_best 9 = .ok (.ifnonnull 5, 3) := by decide +kernel
theorem d_AP_best_12 : decode b_AP_best 12 = .ok (.iconst (-1), 1) := by decide +kernel
theorem d_AP_best_13 : decode b_AP_best 13 = .ok (.ireturn, 1) := by decide +kernel
theorem d_AP_best_14 : decode b_AP_best 14 = .ok (.iload_n 2, 1) := by decide +kernel
theorem d_AP_best_15 : decode b_AP_best 15 = .ok (.iconst 1, 1) := by decide +kernel
theorem d_AP_best_16 : decode b_AP_best 16 = .ok (.sipush 200, 3) := by decide +kernel
theorem d_AP_best_19 : decode b_AP_best 19 = .ok (.invokestatic 67, 3) := by decide +kernel
theorem d_AP_best_22 : decode b_AP_best 22 = .ok (.ifCond .eq 12, 3) := by decide +kernel
theorem d_AP_best_25 : decode b_AP_best 25 = .ok (.iload_n 3, 1) := by decide +kernel
theorem d_AP_best_26 : decode b_AP_best 26 = .ok (.iconst 0, 1) := by decide +kernel
theorem d_AP_best_27 : decode b_AP_best 27 = .ok (.iconst 1, 1) := by decide +kernel
theorem d_AP_best_28 : decode b_AP_best 28 = .ok (.invokestatic 67, 3) := by decide +kernel
theorem d_AP_best_31 : decode b_AP_best 31 = .ok (.ifCond .ne 6, 3) := by decide +kernel
theorem d_AP_best_34 : decode b_AP_best 34 = .ok (.bipush (-2), 2) := by decide +kernel
theorem d_AP_best_36 : decode b_AP_best 36 = .ok (.ireturn, 1) := by decide +kernel
theorem d_AP_best_37 : decode b_AP_best 37 = .ok (.iconst 1, 1) := by decide +kernel
theorem d_AP_best_38 : decode b_AP_best 38 = .ok (.istore 5, 2) := by decide +kernel
theorem d_AP_best_40 : decode b_AP_best 40 = .ok (.aload_n 0, 1) := by decide +kernel
theorem d_AP_best_41 : decode b_AP_best 41 = .ok (.getfield 110, 3) := by decide +kernel
theorem d_AP_best_44 : decode b_AP_best 44 = .ok (.aload 4, 2) := by decide +kernel
theorem d_AP_best_46 : decode b_AP_best 46 = .ok (.iconst 1, 1) := by decide +kernel
theorem d_AP_best_47 : decode b_AP_best 47 = .ok (.invokevirtual 107, 3) := by decide +kernel
theorem d_AP_best_50 : decode b_AP_best 50 = .ok (.iload_n 2, 1) := by decide +kernel
theorem d_AP_best_51 : decode b_AP_best 51 = .ok (.invokestatic 183, 3) := by decide +kernel
theorem d_AP_best_54 : decode b_AP_best 54 = .ok (.istore 6, 2) := by decide +kernel
theorem d_AP_best_56 : decode b_AP_best 56 = .ok (.iconst 2, 1) := by decide +kernel
theorem d_AP_best_57 : decode b_AP_best 57 = .ok (.istore 7, 2) := by decide +kernel
theorem d_AP_best_59 : decode b_AP_best 59 = .ok (.iload 7, 2) := by decide +kernel
theorem d_AP_best_61 : decode b_AP_best 61 = .ok (.aload 4, 2) := by decide +kernel
theorem d_AP_best_63 : decode b_AP_best 63 = .ok (.getfield 104, 3) := by decide +kernel
theorem d_AP_best_66 : decode b_AP_best 66 = .ok (.if_icmp .gt 41, 3) := by decide +kernel
theorem d_AP_best_69 : decode b_AP_best 69 = .ok (.aload_n 0, 1) := by decide +kernel
theorem d_AP_best_70 : decode b_AP_best 70 = .ok (.getfield 110, 3) := by decide +kernel
theorem d_AP_best_73 : decode b_AP_best 73 = .ok (.aload 4, 2) := by decide +kernel
theorem d_AP_best_75 : decode b_AP_best 75 = .ok (.iload 7, 2) := by decide +kernel
theorem d_AP_best_77 : decode b_AP_best 77 = .ok (.invokevirtual 107, 3) := by decide +kernel
theorem d_AP_best_80 : decode b_AP_best 80 = .ok (.iload_n 2, 1) := by decide +kernel
theorem d_AP_best_81 : decode b_AP_best 81 = .ok (.invokestatic 183, 3) := by decide +kernel
theorem d_AP_best_84 : decode b_AP_best 84 = .ok (.istore 8, 2) := by decide +kernel
theorem d_AP_best_86 : decode b_AP_best 86 = .ok (.iload 8, 2) := by decide +kernel
theorem d_AP_best_88 : decode b_AP_best 88 = .ok (.iload 6, 2) := by decide +kernel
theorem d_AP_best_90 : decode b_AP_best 90 = .ok (.if_icmp .ge 11, 3) := by decide +kernel
theorem d_AP_best_93 : decode b_AP_best 93 = .ok (.iload 8, 2) := by decide +kernel
theorem d_AP_best_95 : decode b_AP_best 95 = .ok (.istore 6, 2) := by decide +kernel
theorem d_AP_best_97 : decode b_AP_best 97 = .ok (.iload 7, 2) := by decide +kernel
theorem d_AP_best_99 : decode b_AP_best 99 = .ok (.istore 5, 2) := by decide +kernel
theorem d_AP_best_101 : decode b_AP_best 101 = .ok (.iinc 7 1, 3) := by decide +kernel
theorem d_AP_best_104 : decode b_AP_best 104 = .ok (.goto (-45), 3) := by decide +kernel
theorem d_AP_best_107 : decode b_AP_best 107 = .ok (.iload_n 3, 1) := by decide +kernel
theorem d_AP_best_108 : decode b_AP_best 108 = .ok (.ifCond .ne 8, 3) := by decide +kernel
theorem d_AP_best_111 : decode b_AP_best 111 = .ok (.iload 5, 2) := by decide +kernel
theorem d_AP_best_113 : decode b_AP_best 113 = .ok (.goto 5, 3) := by decide +kernel
theorem d_AP_best_116 : decode b_AP_best 116 = .ok (.iload 6, 2) := by decide +kernel
theorem d_AP_best_118 : decode b_AP_best 118 = .ok (.ireturn, 1) := by decide +kernel
theorem d_AP_course_0 : decode b_AP_course 0 = .ok (.aload_n 0, 1) := by decide +kernel
theorem d_AP_course_1 : decode b_AP_course 1 = .ok (.iload_n 1, 1) := by decide +kernel
theorem d_AP_course_2 : decode b_AP_course 2 = .ok (.invokevirtual 96, 3) := by decide +kernel
theorem d_AP_course_5 : decode b_AP_course 5 = .ok (.astore 6, 2) := by decide +kernel
theorem d_AP_course_7 : decode b_AP_course 7 = .ok (.aload_n 0, 1) := by decide +kernel
theorem d_AP_course_8 : decode b_AP_course 8 = .ok (.iload_n 2, 1) := by decide +kernel
theorem d_AP_course_9 : decode b_AP_course 9 = .ok (.invokevirtual 96, 3) := by decide +kernel
theorem d_AP_course_12 : decode b_AP_course 12 = .ok (.astore 7, 2) := by decide +kernel
theorem d_AP_course_14 : decode b_AP_course 14 = .ok (.aload 6, 2) := by decide +kernel
theorem d_AP_course_16 : decode b_AP_course 16 = .ok (.ifnull 19, 3) := by decide +kernel
theorem d_AP_course_19 : decode b_AP_course 19 = .ok (.aload 7, 2) := by decide +kernel
theorem d_AP_course_21 : decode b_AP_course 21 = .ok (.ifnull 14, 3) := by decide +kernel
theorem d_AP_course_24 : decode b_AP_course 24 = .ok (.iload_n 1, 1) := by decide +kernel
theorem d_AP_course_25 : decode b_AP_course 25 = .ok (.iload_n 2, 1) := by decide +kernel
theorem d_AP_course_26 : decode b_AP_course 26 = .ok (.if_icmp .eq 9, 3) := by decide +kernel
theorem d_AP_course_29 : decode b_AP_course 29 = .ok (.iload 5, 2) := by decide +kernel
theorem d_AP_course_31 : decode b_AP_course 31 = .ok (.iconst (-1), 1) := by decide +kernel
theorem d_AP_course_32 : decode b_AP_course 32 = .ok (.if_icmp .ge 5, 3) := by decide +kernel
theorem d_AP_course_35 : decode b_AP_course 35 = .ok (.iconst (-1), 1) := by decide +kernel
theorem d_AP_course_36 : decode b_AP_course 36 = .ok (.ireturn, 1) := by decide +kernel
theorem d_AP_course_37 : decode b_AP_course 37 = .ok (.iload_n 3, 1) := by decide +kernel
theorem d_AP_course_38 : decode b_AP_course 38 = .ok (.iconst 1, 1) := by decide +kernel
theorem d_AP_course_39 : decode b_AP_course 39 = .ok (.bipush 8, 2) := by decide +kernel
theorem d_AP_course_41 : decode b_AP_course 41 = .ok (.invokestatic 67, 3) := by decide +kernel
theorem d_AP_course_44 : decode b_AP_course 44 = .ok (.ifCond .eq 15, 3) := by decide +kernel
theorem d_AP_course_47 : decode b_AP_course 47 = .ok (.iload 4, 2) := by decide +kernel
theorem d_AP_course_49 : decode b_AP_course 49 = .ok (.iconst 0, 1) := by decide +kernel
theorem d_AP_course_50 : decode b_AP_course 50 = .ok (.sipush 999, 3) := by decide +kernel
theorem d_AP_course_53 : decode b_AP_course 53 = .ok (.invokestatic 67, 3) := by decide +kernel
theorem d_AP_course_56 : decode b_AP_course 56 = .ok (.ifCond .ne 6, 3) := by decide +kernel
theorem d_AP_course_59 : decode b_AP_course 59 = .ok (.bipush (-2), 2) := by decide +kernel
theorem d_AP_course_61 : decode b_AP_course 61 = .ok (.ireturn, 1) := by decide +kernel
theorem d_AP_course_62 : decode b_AP_course 62 = .ok (.aload_n 0, 1) := by decide +kernel
theorem d_AP_course_63 : decode b_AP_course 63 = .ok (.getfield 41, 3) := by decide +kernel
theorem d_AP_course_66 : decode b_AP_course 66 = .ok (.aload 6, 2) := by decide +kernel
theorem d_AP_course_68 : decode b_AP_course 68 = .ok (.aload 7, 2) := by decide +kernel
theorem d_AP_course_70 : decode b_AP_course 70 = .ok (.iload_n 3, 1) := by decide +kernel
theorem d_AP_course_71 : decode b_AP_course 71 = .ok (.iload 4, 2) := by decide +kernel
theorem d_AP_course_73 : decode b_AP_course 73 = .ok (.aload_n 0, 1) := by decide +kernel
theorem d_AP_course_74 : decode b_AP_course 74 = .ok (.getfield 110, 3) := by decide +kernel
theorem d_AP_course_77 : decode b_AP_course 77 = .ok (.invokevirtual 186, 3) := by decide +kernel
theorem d_AP_course_80 : decode b_AP_course 80 = .ok (.iload 5, 2) := by decide +kernel
theorem d_AP_course_82 : decode b_AP_course 82 = .ok (.iconst (-1), 1) := by decide +kernel
theorem d_AP_course_83 : decode b_AP_course 83 = .ok (.if_icmp .ne 11, 3) := by decide +kernel
theorem d_AP_course_86 : decode b_AP_course 86 = .ok (.aload_n 0, 1) := by decide +kernel
theorem d_AP_course_87 : decode b_AP_course 87 = .ok (.getfield 41, 3) := by decide +kernel
theorem d_AP_course_90 : decode b_AP_course 90 = .ok (.getfield 190, 3) := by decide +kernel
theorem d_AP_course_93 : decode b_AP_course 93 = .ok (.ireturn, 1) := by decide +kernel
theorem d_AP_course_94 : decode b_AP_course 94 = .ok (.iload 5, 2) := by decide +kernel
theorem d_AP_course_96 : decode b_AP_course 96 = .ok (.aload_n 0, 1) := by decide +kernel
theorem d_AP_course_97 : decode b_AP_course 97 = .ok (.getfield 41, 3) := by decide +kernel
theorem d_AP_course_100 : decode b_AP_course 100 = .ok (.getfield 190, 3) := by decide +kernel
theorem d_AP_course_103 : decode b_AP_course 103 = .ok (.if_icmp .ge 16, 3) := by decide +kernel
theorem d_AP_course_106 : decode b_AP_course 106 = .ok (.aload_n 0, 1) := by decide +kernel
theorem d_AP_course_107 : decode b_AP_course 107 = .ok (.getfield 41, 3) := by decide +kernel
theorem d_AP_course_110 : decode b_AP_course 110 = .ok (.getfield 193, 3) := by decide +kernel
theorem d_AP_course_113 : decode b_AP_course 113 = .ok (.iload 5, 2) := by decide +kernel
theorem d_AP_course_115 : decode b_AP_course 115 = .ok (.iaload, 1) := by decide +kernel
theorem d_AP_course_116 : decode b_AP_course 116 = .ok (.goto 5, 3) := by decide +kernel
theorem d_AP_course_119 : decode b_AP_course 119 = .ok (.bipush (-9), 2) := by decide +kernel
theorem d_AP_course_121 : decode b_AP_course 121 = .ok (.ireturn, 1) := by decide +kernel
theorem d_AP_cost_0 : decode b_AP_cost 0 = .ok (.aload_n 0, 1) := by decide +kernel
theorem d_AP_cost_1 : decode b_AP_cost 1 = .ok (.iload_n 1, 1) := by decide +kernel
theorem d_AP_cost_2 : decode b_AP_cost 2 = .ok (.invokevirtual 96, 3) := by decide +kernel
theorem d_AP_cost_5 : decode b_AP_cost 5 = .ok (.astore 6, 2) := by decide +kernel
theorem d_AP_cost_7 : decode b_AP_cost 7 = .ok (.aload_n 0, 1) := by decide +kernel
theorem d_AP_cost_8 : decode b_AP_cost 8 = .ok (.iload_n 2, 1) := by decide +kernel
theorem d_AP_cost_9 : decode b_AP_cost 9 = .ok (.invokevirtual 96, 3) := by decide +kernel
theorem d_AP_cost_12 : decode b_AP_cost 12 = .ok (.astore 7, 2) := by decide +kernel
theorem d_AP_cost_14 : decode b_AP_cost 14 = .ok (.aload 6, 2) := by decide +kernel
theorem d_AP_cost_16 : decode b_AP_cost 16 = .ok (.ifnull 13, 3) := by decide +kernel
theorem d_AP_cost_19 : decode b_AP_cost 19 = .ok (.aload 7, 2) := by decide +kernel
theorem d_AP_cost_21 : decode b_AP_cost 21 = .ok (.ifnull 8, 3) := by decide +kernel
theorem d_AP_cost_24 : decode b_AP_cost 24 = .ok (.iload_n 1, 1) := by decide +kernel
theorem d_AP_cost_25 : decode b_AP_cost 25 = .ok (.iload_n 2, 1) := by decide +kernel
theorem d_AP_cost_26 : decode b_AP_cost 26 = .ok (.if_icmp .ne 5, 3) := by decide +kernel
theorem d_AP_cost_29 : decode b_AP_cost 29 = .ok (.iconst (-1), 1) := by decide +kernel
theorem d_AP_cost_30 : decode b_AP_cost 30 = .ok (.ireturn, 1) := by decide +kernel
theorem d_AP_cost_31 : decode b_AP_cost 31 = .ok (.iload_n 3, 1) := by decide +kernel
theorem d_AP_cost_32 : decode b_AP_cost 32 = .ok (.iconst 1, 1) := by decide +kernel
theorem d_AP_cost_33 : decode b_AP_cost 33 = .ok (.bipush 8, 2) := by decide +kernel
theorem d_AP_cost_35 : decode b_AP_cost 35 = .ok (.invokestatic 67, 3) := by decide +kernel
theorem d_AP_cost_38 : decode b_AP_cost 38 = .ok (.ifCond .eq 25, 3) := by decide +kernel
theorem d_AP_cost_41 : decode b_AP_cost 41 = .ok (.iload 4, 2) := by decide +kernel
theorem d_AP_cost_43 : decode b_AP_cost 43 = .ok (.iconst 0, 1) := by decide +kernel
theorem d_AP_cost_44 : decode b_AP_cost 44 = .ok (.sipush 999, 3) := by decide +kernel
theorem d_AP_cost_47 : decode b_AP_cost 47 = .ok (.invokestatic 67, 3) := by decide +kernel
theorem d_AP_cost_50 : decode b_AP_cost 50 = .ok (.ifCond .eq 13, 3) := by decide +kernel
theorem d_AP_cost_53 : decode b_AP_cost 53 = .ok (.iload 5, 2) := by decide +kernel
theorem d_AP_cost_55 : decode b_AP_cost 55 = .ok (.iconst 0, 1) := by decide +kernel
theorem d_AP_cost_56 : decode b_AP_cost 56 = .ok (.iconst 1, 1) := by decide +kernel
theorem d_AP_cost_57 : decode b_AP_cost 57 = .ok (.invokestatic 67, 3) := by decide +kernel
theorem d_AP_cost_60 : decode b_AP_cost 60 = .ok (.ifCond .ne 6, 3) := by decide +kernel
theorem d_AP_cost_63 : decode b_AP_cost 63 = .ok (.bipush (-2), 2) := by decide +kernel
theorem d_AP_cost_65 : decode b_AP_cost 65 = .ok (.ireturn, 1) := by decide +kernel
theorem d_AP_cost_66 : decode b_AP_cost 66 = .ok (.aload_n 0, 1) := by decide +kernel
theorem d_AP_cost_67 : decode b_AP_cost 67 = .ok (.getfield 41, 3) := by decide +kernel
theorem d_AP_cost_70 : decode b_AP_cost 70 = .ok (.aload 6, 2) := by decide +kernel
theorem d_AP_cost_72 : decode b_AP_cost 72 = .ok (.aload 7, 2) := by decide +kernel
theorem d_AP_cost_74 : decode b_AP_cost 74 = .ok (.iload_n 3, 1) := by decide +kernel
theorem d_AP_cost_75 : decode b_AP_cost 75 = .ok (.iload 4, 2) := by decide +kernel
theorem d_AP_cost_77 : decode b_AP_cost 77 = .ok (.aload_n 0, 1) := by decide +kernel
theorem d_AP_cost_78 : decode b_AP_cost 78 = .ok (.getfield 110, 3) := by decide +kernel
theorem d_AP_cost_81 : decode b_AP_cost 81 = .ok (.invokevirtual 186, 3) := by decide +kernel
theorem d_AP_cost_84 : decode b_AP_cost 84 = .ok (.iload 5, 2) := by decide +kernel
theorem d_AP_cost_86 : decode b_AP_cost 86 = .ok (.ifCond .ne 13, 3) := by decide +kernel
theorem d_AP_cost_89 : decode b_AP_cost 89 = .ok (.aload_n 0, 1) := by decide +kernel
theorem d_AP_cost_90 : decode b_AP_cost 90 = .ok (.getfield 41, 3) := by decide +kernel
theorem d_AP_cost_93 : decode b_AP_cost 93 = .ok (.getfield 196, 3) := by decide +kernel
theorem d_AP_cost_96 : decode b_AP_cost 96 = .ok (.goto 10, 3) := by decide +kernel
theorem d_AP_cost_99 : decode b_AP_cost 99 = .ok (.aload_n 0, 1) := by decide +kernel
theorem d_AP_cost_100 : decode b_AP_cost 100 = .ok (.getfield 41, 3) := by decide +kernel
theorem d_AP_cost_103 : decode b_AP_cost 103 = .ok (.getfield 199, 3) := by decide +kernel
theorem d_AP_cost_106 : decode b_AP_cost 106 = .ok (.ireturn, 1) := by decide +kernel
theorem d_AP_split_0 : decode b_AP_split 0 = .ok (.aload_n 0, 1) := by decide +kernel
theorem d_AP_split_1 : decode b_AP_split 1 = .ok (.iconst 0, 1) := by decide +kernel
theorem d_AP_split_2 : decode b_AP_split 2 = .ok (.putfield 59, 3) := by decide +kernel
theorem d_AP_split_5 : decode b_AP_split 5 = .ok (.aload_n 0, 1) := by decide +kernel
theorem d_AP_split_6 : decode b_AP_split 6 = .ok (.iload_n 1, 1) := by decide +kernel
theorem d_AP_split_7 : decode b_AP_split 7 = .ok (.invokevirtual 96, 3) := by decide +kernel
theorem d_AP_split_10 : decode b_AP_split 10 = .ok (.astore 8, 2) := by decide +kernel
theorem d_AP_split_12 : decode b_AP_split 12 = .ok (.aload_n 0, 1) := by decide +kernel
theorem d_AP_split_13 : decode b_AP_split 13 = .ok (.iload_n 3, 1) := by decide +kernel
theorem d_AP_split_14 : decode b_AP_split 14 = .ok (.invokevirtual 63, 3) := by decide +kernel
theorem d_AP_split_17 : decode b_AP_split 17 = .ok (.astore 9, 2) := by decide +kernel
theorem d_AP_split_19 : decode b_AP_split 19 = .ok (.aload 8, 2) := by decide +kernel
theorem d_AP_split_21 : decode b_AP_split 21 = .ok (.ifnull 8, 3) := by decide +kernel
theorem d_AP_split_24 : decode b_AP_split 24 = .ok (.aload 9, 2) := by decide +kernel
theorem d_AP_split_26 : decode b_AP_split 26 = .ok (.ifnonnull 5, 3) := by decide +kernel
theorem d_AP_split_29 : decode b_AP_split 29 = .ok (.iconst (-1), 1) := by decide +kernel
theorem d_AP_split_30 : decode b_AP_split 30 = .ok (.ireturn, 1) := by decide +kernel
theorem d_AP_split_31 : decode b_AP_split 31 = .ok (.iload 4, 2) := by decide +kernel
theorem d_AP_split_33 : decode b_AP_split 33 = .ok (.iconst 0, 1) := by decide +kernel
theorem d_AP_split_34 : decode b_AP_split 34 = .ok (.iconst 2, 1) := by decide +kernel
theorem d_AP_split_35 : decode b_AP_split 35 = .ok (.invokestatic 67, 3) := by decide +kernel
theorem d_AP_split_38 : decode b_AP_split 38 = .ok (.ifCond .eq 13, 3) := by decide +kernel
theorem d_AP_split_41 : decode b_AP_split 41 = .ok (.iload_n 2, 1) := by decide +kernel
theorem d_AP_split_42 : decode b_AP_split 42 = .ok (.iconst 1, 1) := by decide +kernel
theorem d_AP_split_43 : decode b_AP_split 43 = .ok (.bipush 99, 2) := by decide +kernel
theorem d_AP_split_45 : decode b_AP_split 45 = .ok (.invokestatic 67, 3) := by decide +kernel
theorem d_AP_split_48 : decode b_AP_split 48 = .ok (.ifCond .ne 6, 3) := by decide +kernel
theorem d_AP_split_51 : decode b_AP_split 51 = .ok (.bipush (-2), 2) := by decide +kernel
theorem d_AP_split_53 : decode b_AP_split 53 = .ok (.ireturn, 1) := by decide +kernel
theorem d_AP_split_54 : decode b_AP_split 54 = .ok (.aload 9, 2) := by decide +kernel
theorem d_AP_split_56 : decode b_AP_split 56 = .ok (.iload 4, 2) := by decide +kernel
theorem d_AP_split_58 : decode b_AP_split 58 = .ok (.iload 5, 2) := by decide +kernel
theorem d_AP_split_60 : decode b_AP_split 60 = .ok (.iload 6, 2) := by decide +kernel
theorem d_AP_split_62 : decode b_AP_split 62 = .ok (.invokevirtual 71, 3) := by decide +kernel
theorem d_AP_split_65 : decode b_AP_split 65 = .ok (.istore 10, 2) := by decide +kernel
theorem d_AP_split_67 : decode b_AP_split 67 = .ok (.iload 10, 2) := by decide +kernel
theorem d_AP_split_69 : decode b_AP_split 69 = .ok (.ifCond .eq 10, 3) := by decide +kernel
theorem d_AP_split_72 : decode b_AP_split 72 = .ok (.aload_n 0, 1) := by decide +kernel
theorem d_AP_split_73 : decode b_AP_split 73 = .ok (.iload 10, 2) := by decide +kernel
theorem d_AP_split_75 : decode b_AP_split 75 = .ok (.invokevirtual 75, 3) := by decide +kernel
theorem d_AP_split_78 : decode b_AP_split 78 = .ok (.ireturn, 1) := by decide +kernel
theorem d_AP_split_79 : decode b_AP_split 79 = .ok (.iload 6, 2) := by decide +kernel
theorem d_AP_split_81 : decode b_AP_split 81 = .ok (.iconst 1, 1) := by decide +kernel
theorem d_AP_split_82 : decode b_AP_split 82 = .ok (.bipush 6, 2) := by decide +kernel
theorem d_AP_split_84 : decode b_AP_split 84 = .ok (.invokestatic 67, 3) := by decide +kernel
theorem d_AP_split_87 : decode b_AP_split 87 = .ok (.ifCond .eq 25, 3) := by decide +kernel
theorem d_AP_split_90 : decode b_AP_split 90 = .ok (.iload 6, 2) := by decide +kernel
theorem d_AP_split_92 : decode b_AP_split 92 = .ok (.iload_n 2, 1) := by decide +kernel
theorem d_AP_split_93 : decode b_AP_split 93 = .ok (.if_icmp .gt 19, 3) := by decide +kernel
theorem d_AP_split_96 : decode b_AP_split 96 = .ok (.aload 9, 2) := by decide +kernel
theorem d_AP_split_98 : decode b_AP_split 98 = .ok (.iload 5, 2) := by decide +kernel
theorem d_AP_split_100 : decode b_AP_split 100 = .ok (.iload 6, 2) := by decide +kernel
theorem d_AP_split_102 : decode b_AP_split 102 = .ok (.iconst 1, 1) := by decide +kernel
theorem d_AP_split_103 : decode b_AP_split 103 = .ok (.sipush 200, 3) := by decide +kernel
theorem d_AP_split_106 : decode b_AP_split 106 = .ok (.invokevirtual 202, 3) := by decide +kernel
theorem d_AP_split_109 : decode b_AP_split 109 = .ok (.ifCond .ne 6, 3) := by decide +kernel
theorem d_AP_split_112 : decode b_AP_split 112 = .ok (.bipush (-2), 2) := by decide +kernel
theorem d_AP_split_114 : decode b_AP_split 114 = .ok (.ireturn, 1) := by decide +kernel
theorem d_AP_split_115 : decode b_AP_split 115 = .ok (.iload 7, 2) := by decide +kernel
theorem d_AP_split_117 : decode b_AP_split 117 = .ok (.iconst (-1), 1) := by decide +kernel
theorem d_AP_split_118 : decode b_AP_split 118 = .ok (.iload 6, 2) := by decide +kernel
theorem d_AP_split_120 : decode b_AP_split 120 = .ok (.iconst 1, 1) := by decide +kernel
theorem d_AP_split_121 : decode b_AP_split 121 = .ok (.isub, 1) := by decide +kernel
theorem d_AP_split_122 : decode b_AP_split 122 = .ok (.invokestatic 67, 3) := by decide +kernel
theorem d_AP_split_125 : decode b_AP_split 125 = .ok (.ifCond .ne 5, 3) := by decide +kernel
theorem d_AP_split_128 : decode b_AP_split 128 = .ok (.iconst (-1), 1) := by decide +kernel
theorem d_AP_split_129 : decode b_AP_split 129 = .ok (.ireturn, 1) := by decide +kernel
theorem d_AP_split_130 : decode b_AP_split 130 = .ok (.aload_n 0, 1) := by decide +kernel
theorem d_AP_split_131 : decode b_AP_split 131 = .ok (.getfield 48, 3) := by decide +kernel
theorem d_AP_split_134 : decode b_AP_split 134 = .ok (.aload 8, 2) := by decide +kernel
theorem d_AP_split_136 : decode b_AP_split 136 = .ok (.iload_n 2, 1) := by decide +kernel
theorem d_AP_split_137 : decode b_AP_split 137 = .ok (.aload 9, 2) := by decide +kernel
theorem d_AP_split_139 : decode b_AP_split 139 = .ok (.getfield 79, 3) := by decide +kernel
theorem d_AP_split_142 : decode b_AP_split 142 = .ok (.iload 5, 2) := by decide +kernel
theorem d_AP_split_144 : decode b_AP_split 144 = .ok (.iload 6, 2) := by decide +kernel
theorem d_AP_split_146 : decode b_AP_split 146 = .ok (.aload_n 0, 1) := by decide +kernel
theorem d_AP_split_147 : decode b_AP_split 147 = .ok (.getfield 110, 3) := by decide +kernel
theorem d_AP_split_150 : decode b_AP_split 150 = .ok (.invokevirtual 206, 3) := by decide +kernel
theorem d_AP_split_153 : decode b_AP_split 153 = .ok (.iload 7, 2) := by decide +kernel
theorem d_AP_split_155 : decode b_AP_split 155 = .ok (.iconst (-1), 1) := by decide +kernel
theorem d_AP_split_156 : decode b_AP_split 156 = .ok (.if_icmp .ne 13, 3) := by decide +kernel
theorem d_AP_split_159 : decode b_AP_split 159 = .ok (.aload_n 0, 1) := by decide +kernel
theorem d_AP_split_160 : decode b_AP_split 160 = .ok (.getfield 48, 3) := by decide +kernel
theorem d_AP_split_163 : decode b_AP_split 163 = .ok (.getfield 210, 3) := by decide +kernel
theorem d_AP_split_166 : decode b_AP_split 166 = .ok (.goto 13, 3) := by decide +kernel
theorem d_AP_split_169 : decode b_AP_split 169 = .ok (.aload_n 0, 1) := by decide +kernel
theorem d_AP_split_170 : decode b_AP_split 170 = .ok (.getfield 48, 3) := by decide +kernel
theorem d_AP_split_173 : decode b_AP_split 173 = .ok (.getfield 213, 3) := by decide +kernel
theorem d_AP_split_176 : decode b_AP_split 176 = .ok (.iload 7, 2) := by decide +kernel
theorem d_AP_split_178 : decode b_AP_split 178 = .ok (.iaload, 1) := by decide +kernel
theorem d_AP_split_179 : decode b_AP_split 179 = .ok (.ireturn, 1) := by decide +kernel
theorem d_AP_least_0 : decode b_AP_least 0 = .ok (.aload_n 0, 1) := by decide +kernel
theorem d_AP_least_1 : decode b_AP_least 1 = .ok (.iload_n 1, 1) := by decide +kernel
theorem d_AP_least_2 : decode b_AP_least 2 = .ok (.invokevirtual 96, 3) := by decide +kernel
theorem d_AP_least_5 : decode b_AP_least 5 = .ok (.ifnonnull 5, 3) := by decide +kernel
theorem d_AP_least_8 : decode b_AP_least 8 = .ok (.iconst (-1), 1) := by decide +kernel
theorem d_AP_least_9 : decode b_AP_least 9 = .ok (.ireturn, 1) := by decide +kernel
theorem d_AP_least_10 : decode b_AP_least 10 = .ok (.iload_n 2, 1) := by decide +kernel
theorem d_AP_least_11 : decode b_AP_least 11 = .ok (.invokestatic 113, 3) := by decide +kernel
theorem d_AP_least_14 : decode b_AP_least 14 = .ok (.ifCond .eq 12, 3) := by decide +kernel
theorem d_AP_least_17 : decode b_AP_least 17 = .ok (.iload_n 3, 1) := by decide +kernel
theorem d_AP_least_18 : decode b_AP_least 18 = .ok (.iconst 0, 1) := by decide +kernel
theorem d_AP_least_19 : decode b_AP_least 19 = .ok (.iconst 1, 1) := by decide +kernel
theorem d_AP_least_20 : decode b_AP_least 20 = .ok (.invokestatic 67, 3) := by decide +kernel
theorem d_AP_least_23 : decode b_AP_least 23 = .ok (.ifCond .ne 6, 3) := by decide +kernel
theorem d_AP_least_26 : decode b_AP_least 26 = .ok (.bipush (-2), 2) := by decide +kernel
theorem d_AP_least_28 : decode b_AP_least 28 = .ok (.ireturn, 1) := by decide +kernel
theorem d_AP_least_29 : decode b_AP_least 29 = .ok (.iconst 0, 1) := by decide +kernel
theorem d_AP_least_30 : decode b_AP_least 30 = .ok (.istore 4, 2) := by decide +kernel
theorem d_AP_least_32 : decode b_AP_least 32 = .ok (.aload_n 0, 1) := by decide +kernel
theorem d_AP_least_33 : decode b_AP_least 33 = .ok (.getfield 27, 3) := by decide +kernel
theorem d_AP_least_36 : decode b_AP_least 36 = .ok (.iload_n 1, 1) := by decide +kernel
theorem d_AP_least_37 : decode b_AP_least 37 = .ok (.iload_n 2, 1) := by decide +kernel
theorem d_AP_least_38 : decode b_AP_least 38 = .ok (.iconst 0, 1) := by decide +kernel
theorem d_AP_least_39 : decode b_AP_least 39 = .ok (.invokevirtual 163, 3) := by decide +kernel
theorem d_AP_least_42 : decode b_AP_least 42 = .ok (.istore 5, 2) := by decide +kernel
theorem d_AP_least_44 : decode b_AP_least 44 = .ok (.iconst 1, 1) := by decide +kernel
theorem d_AP_least_45 : decode b_AP_least 45 = .ok (.istore 6, 2) := by decide +kernel
theorem d_AP_least_47 : decode b_AP_least 47 = .ok (.iload 6, 2) := by decide +kernel
theorem d_AP_least_49 : decode b_AP_least 49 = .ok (.iconst 3, 1) := by decide +kernel
theorem d_AP_least_50 : decode b_AP_least 50 = .ok (.if_icmp .ge 37, 3) := by decide +kernel
theorem d_AP_least_53 : decode b_AP_least 53 = .ok (.aload_n 0, 1) := by decide +kernel
theorem d_AP_least_54 : decode b_AP_least 54 = .ok (.getfield 27, 3) := by decide +kernel
theorem d_AP_least_57 : decode b_AP_least 57 = .ok (.iload_n 1, 1) := by decide +kernel
theorem d_AP_least_58 : decode b_AP_least 58 = .ok (.iload_n 2, 1) := by decide +kernel
theorem d_AP_least_59 : decode b_AP_least 59 = .ok (.iload 6, 2) := by decide +kernel
theorem d_AP_least_61 : decode b_AP_least 61 = .ok (.invokevirtual 163, 3) := by decide +kernel
theorem d_AP_least_64 : decode b_AP_least 64 = .ok (.istore 7, 2) := by decide +kernel
theorem d_AP_least_66 : decode b_AP_least 66 = .ok (.iload 7, 2) := by decide +kernel
theorem d_AP_least_68 : decode b_AP_least 68 = .ok (.iload 5, 2) := by decide +kernel
theorem d_AP_least_70 : decode b_AP_least 70 = .ok (.if_icmp .ge 11, 3) := by decide +kernel
theorem d_AP_least_73 : decode b_AP_least 73 = .ok (.iload 7, 2) := by decide +kernel
theorem d_AP_least_75 : decode b_AP_least 75 = .ok (.istore 5, 2) := by decide +kernel
theorem d_AP_least_77 : decode b_AP_least 77 = .ok (.iload 6, 2) := by decide +kernel
theorem d_AP_least_79 : decode b_AP_least 79 = .ok (.istore 4, 2) := by decide +kernel
theorem d_AP_least_81 : decode b_AP_least 81 = .ok (.iinc 6 1, 3) := by decide +kernel
theorem d_AP_least_84 : decode b_AP_least 84 = .ok (.goto (-37), 3) := by decide +kernel
theorem d_AP_least_87 : decode b_AP_least 87 = .ok (.iload_n 3, 1) := by decide +kernel
theorem d_AP_least_88 : decode b_AP_least 88 = .ok (.ifCond .ne 8, 3) := by decide +kernel
theorem d_AP_least_91 : decode b_AP_least 91 = .ok (.iload 4, 2) := by decide +kernel
theorem d_AP_least_93 : decode b_AP_least 93 = .ok (.goto 5, 3) := by decide +kernel
theorem d_AP_least_96 : decode b_AP_least 96 = .ok (.iload 5, 2) := by decide +kernel
theorem d_AP_least_98 : decode b_AP_least 98 = .ok (.ireturn, 1) := by decide +kernel
theorem d_AP_weights_0 : decode b_AP_weights 0 = .ok (.aload_n 0, 1) := by decide +kernel
theorem d_AP_weights_1 : decode b_AP_weights 1 = .ok (.getfield 27, 3) := by decide +kernel
theorem d_AP_weights_4 : decode b_AP_weights 4 = .ok (.iload_n 1, 1) := by decide +kernel
theorem d_AP_weights_5 : decode b_AP_weights 5 = .ok (.invokevirtual 125, 3) := by decide +kernel
theorem d_AP_weights_8 : decode b_AP_weights 8 = .ok (.ifCond .eq 17, 3) := by decide +kernel
theorem d_AP_weights_11 : decode b_AP_weights 11 = .ok (.aload_n 0, 1) := by decide +kernel
theorem d_AP_weights_12 : decode b_AP_weights 12 = .ok (.iload_n 2, 1) := by decide +kernel
theorem d_AP_weights_13 : decode b_AP_weights 13 = .ok (.invokevirtual 96, 3) := by decide +kernel
theorem d_AP_weights_16 : decode b_AP_weights 16 = .ok (.ifnull 9, 3) := by decide +kernel
theorem d_AP_weights_19 : decode b_AP_weights 19 = .ok (.iload 5, 2) := by decide +kernel
theorem d_AP_weights_21 : decode b_AP_weights 21 = .ok (.iconst (-1), 1) := by decide +kernel
theorem d_AP_weights_22 : decode b_AP_weights 22 = .ok (.if_icmp .ge 5, 3) := by decide +kernel
theorem d_AP_weights_25 : decode b_AP_weights 25 = .ok (.iconst (-1), 1) := by decide +kernel
theorem d_AP_weights_26 : decode b_AP_weights 26 = .ok (.ireturn, 1) := by decide +kernel
theorem d_AP_weights_27 : decode b_AP_weights 27 = .ok (.iload_n 3, 1) := by decide +kernel
theorem d_AP_weights_28 : decode b_AP_weights 28 = .ok (.invokestatic 113, 3) := by decide +kernel
theorem d_AP_weights_31 : decode b_AP_weights 31 = .ok (.ifCond .ne 6, 3) := by decide +kernel
theorem d_AP_weights_34 : decode b_AP_weights 34 = .ok (.bipush (-2), 2) := by decide +kernel
theorem d_AP_weights_36 : decode b_AP_weights 36 = .ok (.ireturn, 1) := by decide +kernel
theorem d_AP_weights_37 : decode b_AP_weights 37 = .ok (.aload_n 0, 1) := by decide +kernel
theorem d_AP_weights_38 : decode b_AP_weights 38 = .ok (.aload_n 0, 1) := by decide +kernel
theorem d_AP_weights_39 : decode b_AP_weights 39 = .ok (.getfield 27, 3) := by decide +kernel
theorem d_AP_weights_42 : decode b_AP_weights 42 = .ok (.getfield 137, 3) := by decide +kernel
theorem d_AP_weights_45 : decode b_AP_weights 45 = .ok (.iload_n 1, 1) := by decide +kernel
theorem d_AP_weights_46 : decode b_AP_weights 46 = .ok (.iaload, 1) := by decide +kernel
theorem d_AP_weights_47 : decode b_AP_weights 47 = .ok (.invokevirtual 96, 3) := by decide +kernel
theorem d_AP_weights_50 : decode b_AP_weights 50 = .ok (.astore 6, 2) := by decide +kernel
theorem d_AP_weights_52 : decode b_AP_weights 52 = .ok (.aload_n 0, 1) := by decide +kernel
theorem d_AP_weights_53 : decode b_AP_weights 53 = .ok (.getfield 27, 3) := by decide +kernel
theorem d_AP_weights_56 : decode b_AP_weights 56 = .ok (.iload_n 1, 1) := by decide +kernel
theorem d_AP_weights_57 : decode b_AP_weights 57 = .ok (.invokevirtual 131, 3) := by decide +kernel
theorem d_AP_weights_60 : decode b_AP_weights 60 = .ok (.ifCond .eq 8, 3) := by decide +kernel
theorem d_AP_weights_63 : decode b_AP_weights 63 = .ok (.aload 6, 2) := by decide +kernel
theorem d_AP_weights_65 : decode b_AP_weights 65 = .ok (.ifnonnull 6, 3) := by decide +kernel
theorem d_AP_weights_68 : decode b_AP_weights 68 = .ok (.bipush (-3), 2) := by decide +kernel
theorem d_AP_weights_70 : decode b_AP_weights 70 = .ok (.ireturn, 1) := by decide +kernel
theorem d_AP_weights_71 : decode b_AP_weights 71 = .ok (.iconst 0, 1) := by decide +kernel
theorem d_AP_weights_72 : decode b_AP_weights 72 = .ok (.istore 7, 2) := by decide +kernel
theorem d_AP_weights_74 : decode b_AP_weights 74 = .ok (.iconst 1, 1) := by decide +kernel
theorem d_AP_weights_75 : decode b_AP_weights 75 = .ok (.istore 8, 2) := by decide +kernel
theorem d_AP_weights_77 : decode b_AP_weights 77 = .ok (.iload 8, 2) := by decide +kernel
theorem d_AP_weights_79 : decode b_AP_weights 79 = .ok (.bipush 99, 2) := by decide +kernel
theorem d_AP_weights_81 : decode b_AP_weights 81 = .ok (.if_icmp .gt 48, 3) := by decide +kernel
theorem d_AP_weights_84 : decode b_AP_weights 84 = .ok (.aload_n 0, 1) := by decide +kernel
theorem d_AP_weights_85 : decode b_AP_weights 85 = .ok (.getfield 27, 3) := by decide +kernel
theorem d_AP_weights_88 : decode b_AP_weights 88 = .ok (.iload_n 2, 1) := by decide +kernel
theorem d_AP_weights_89 : decode b_AP_weights 89 = .ok (.iload_n 3, 1) := by decide +kernel
theorem d_AP_weights_90 : decode b_AP_weights 90 = .ok (.aload_n 0, 1) := by decide +kernel
theorem d_AP_weights_91 : decode b_AP_weights 91 = .ok (.getfield 110, 3) := by decide +kernel
theorem d_AP_weights_94 : decode b_AP_weights 94 = .ok (.iload_n 1, 1) := by decide +kernel
theorem d_AP_weights_95 : decode b_AP_weights 95 = .ok (.aload 6, 2) := by decide +kernel
theorem d_AP_weights_97 : decode b_AP_weights 97 = .ok (.iload 8, 2) := by decide +kernel
theorem d_AP_weights_99 : decode b_AP_weights 99 = .ok (.invokevirtual 107, 3) := by decide +kernel
theorem d_AP_weights_102 : decode b_AP_weights 102 = .ok (.invokevirtual 214, 3) := by decide +kernel
theorem d_AP_weights_105 : decode b_AP_weights 105 = .ok (.iload 4, 2) := by decide +kernel
theorem d_AP_weights_107 : decode b_AP_weights 107 = .ok (.if_icmp .ne 16, 3) := by decide +kernel
theorem d_AP_weights_110 : decode b_AP_weights 110 = .ok (.iload 7, 2) := by decide +kernel
theorem d_AP_weights_112 : decode b_AP_weights 112 = .ok (.iload 5, 2) := by decide +kernel
theorem d_AP_weights_114 : decode b_AP_weights 114 = .ok (.if_icmp .ne 6, 3) := by decide +kernel
theorem d_AP_weights_117 : decode b_AP_weights 117 = .ok (.iload 8, 2) := by decide +kernel
theorem d_AP_weights_119 : decode b_AP_weights 119 = .ok (.ireturn, 1) := by decide +kernel
theorem d_AP_weights_120 : decode b_AP_weights 120 = .ok (.iinc 7 1, 3) := by decide +kernel
theorem d_AP_weights_123 : decode b_AP_weights 123 = .ok (.iinc 8 1, 3) := by decide +kernel
theorem d_AP_weights_126 : decode b_AP_weights 126 = .ok (.goto (-49), 3) := by decide +kernel
theorem d_AP_weights_129 : decode b_AP_weights 129 = .ok (.iload 5, 2) := by decide +kernel
theorem d_AP_weights_131 : decode b_AP_weights 131 = .ok (.iconst (-1), 1) := by decide +kernel
theorem d_AP_weights_132 : decode b_AP_weights 132 = .ok (.if_icmp .ne 8, 3) := by decide +kernel
theorem d_AP_weights_135 : decode b_AP_weights 135 = .ok (.iload 7, 2) := by decide +kernel
theorem d_AP_weights_137 : decode b_AP_weights 137 = .ok (.goto 5, 3) := by decide +kernel
theorem d_AP_weights_140 : decode b_AP_weights 140 = .ok (.bipush (-9), 2) := by decide +kernel
theorem d_AP_weights_142 : decode b_AP_weights 142 = .ok (.ireturn, 1) := by decide +kernel
theorem d_AP_sheet_0 : decode b_AP_sheet 0 = .ok (.aload_n 0, 1) := by decide +kernel
theorem d_AP_sheet_1 : decode b_AP_sheet 1 = .ok (.iconst 0, 1) := by decide +kernel
theorem d_AP_sheet_2 : decode b_AP_sheet 2 = .ok (.putfield 59, 3) := by decide +kernel
theorem d_AP_sheet_5 : decode b_AP_sheet 5 = .ok (.aload_n 0, 1) := by decide +kernel
theorem d_AP_sheet_6 : decode b_AP_sheet 6 = .ok (.iload_n 1, 1) := by decide +kernel
theorem d_AP_sheet_7 : decode b_AP_sheet 7 = .ok (.invokevirtual 63, 3) := by decide +kernel
theorem d_AP_sheet_10 : decode b_AP_sheet 10 = .ok (.astore 4, 2) := by decide +kernel
theorem d_AP_sheet_12 : decode b_AP_sheet 12 = .ok (.aload 4, 2) := by decide +kernel
theorem d_AP_sheet_14 : decode b_AP_sheet 14 = .ok (.ifnonnull 5, 3) := by decide +kernel
theorem d_AP_sheet_17 : decode b_AP_sheet 17 = .ok (.iconst (-1), 1) := by decide +kernel
theorem d_AP_sheet_18 : decode b_AP_sheet 18 = .ok (.ireturn, 1) := by decide +kernel
theorem d_AP_sheet_19 : decode b_AP_sheet 19 = .ok (.iload_n 2, 1) := by decide +kernel
theorem d_AP_sheet_20 : decode b_AP_sheet 20 = .ok (.iconst 0, 1) := by decide +kernel
theorem d_AP_sheet_21 : decode b_AP_sheet 21 = .ok (.iconst 2, 1) := by decide +kernel
theorem d_AP_sheet_22 : decode b_AP_sheet 22 = .ok (.invokestatic 67, 3) := by decide +kernel
theorem d_AP_sheet_25 : decode b_AP_sheet 25 = .ok (.ifCond .eq 9, 3) := by decide +kernel
theorem d_AP_sheet_28 : decode b_AP_sheet 28 = .ok (.iload_n 3, 1) := by decide +kernel
theorem d_AP_sheet_29 : decode b_AP_sheet 29 = .ok (.bipush 40, 2) := by decide +kernel
theorem d_AP_sheet_31 : decode b_AP_sheet 31 = .ok (.if_icmp .le 6, 3) := by decide +kernel
theorem d_AP_sheet_34 : decode b_AP_sheet 34 = .ok (.bipush (-2), 2) := by decide +kernel
theorem d_AP_sheet_36 : decode b_AP_sheet 36 = .ok (.ireturn, 1) := by decide +kernel
theorem d_AP_sheet_37 : decode b_AP_sheet 37 = .ok (.iload_n 3, 1) := by decide +kernel
theorem d_AP_sheet_38 : decode b_AP_sheet 38 = .ok (.ifCond .ge 9, 3) := by decide +kernel
theorem d_AP_sheet_41 : decode b_AP_sheet 41 = .ok (.aload_n 0, 1) := by decide +kernel
theorem d_AP_sheet_42 : decode b_AP_sheet 42 = .ok (.iconst 4, 1) := by decide +kernel
theorem d_AP_sheet_43 : decode b_AP_sheet 43 = .ok (.invokevirtual 75, 3) := by decide +kernel
theorem d_AP_sheet_46 : decode b_AP_sheet 46 = .ok (.ireturn, 1) := by decide +kernel
theorem d_AP_sheet_47 : decode b_AP_sheet 47 = .ok (.aload 4, 2) := by decide +kernel
theorem d_AP_sheet_49 : decode b_AP_sheet 49 = .ok (.iload_n 2, 1) := by decide +kernel
theorem d_AP_sheet_50 : decode b_AP_sheet 50 = .ok (.iload_n 3, 1) := by decide +kernel
theorem d_AP_sheet_51 : decode b_AP_sheet 51 = .ok (.invokevirtual 218, 3) := by decide +kernel
theorem d_AP_sheet_54 : decode b_AP_sheet 54 = .ok (.iconst 1, 1) := by decide +kernel
theorem d_AP_sheet_55 : decode b_AP_sheet 55 = .ok (.ireturn, 1) := by decide +kernel
theorem d_AP_lose_0 : decode b_AP_lose 0 = .ok (.aload_n 0, 1) := by decide +kernel
theorem d_AP_lose_1 : decode b_AP_lose 1 = .ok (.iload_n 1, 1) := by decide +kernel
theorem d_AP_lose_2 : decode b_AP_lose 2 = .ok (.invokevirtual 63, 3) := by decide +kernel
theorem d_AP_lose_5 : decode b_AP_lose 5 = .ok (.astore_n 2, 1) := by decide +kernel
theorem d_AP_lose_6 : decode b_AP_lose 6 = .ok (.aload_n 2, 1) := by decide +kernel
theorem d_AP_lose_7 : decode b_AP_lose 7 = .ok (.ifnonnull 5, 3) := by decide +kernel
theorem d_AP_lose_10 : decode b_AP_lose 10 = .ok (.iconst (-1), 1) := by decide +kernel
theorem d_AP_lose_11 : decode b_AP_lose 11 = .ok (.ireturn, 1) := by decide +kernel
theorem d_AP_lose_12 : decode b_AP_lose 12 = .ok (.aload_n 2, 1) := by decide +kernel
theorem d_AP_lose_13 : decode b_AP_lose 13 = .ok (.invokevirtual 221, 3) := by decide +kernel
theorem d_AP_lose_16 : decode b_AP_lose 16 = .ok (.ifCond .eq 7, 3) := by decide +kernel
theorem d_AP_lose_19 : decode b_AP_lose 19 = .ok (.iconst 0, 1) := by decide +kernel
theorem d_AP_lose_20 : decode b_AP_lose 20 = .ok (.goto 4, 3) := by decide +kernel
theorem d_AP_lose_23 : decode b_AP_lose 23 = .ok (.iconst 1, 1) := by decide +kernel
theorem d_AP_lose_24 : decode b_AP_lose 24 = .ok (.istore_n 3, 1) := by decide +kernel
theorem d_AP_lose_25 : decode b_AP_lose 25 = .ok (.aload_n 2, 1) := by decide +kernel
theorem d_AP_lose_26 : decode b_AP_lose 26 = .ok (.iconst (-1), 1) := by decide +kernel
theorem d_AP_lose_27 : decode b_AP_lose 27 = .ok (.putfield 224, 3) := by decide +kernel
theorem d_AP_lose_30 : decode b_AP_lose 30 = .ok (.iload_n 3, 1) := by decide +kernel
theorem d_AP_lose_31 : decode b_AP_lose 31 = .ok (.ireturn, 1) := by decide +kernel
theorem d_AP_put_0 : decode b_AP_put 0 = .ok (.aload_n 0, 1) := by decide +kernel
theorem d_AP_put_1 : decode b_AP_put 1 = .ok (.iconst 0, 1) := by decide +kernel
theorem d_AP_put_2 : decode b_AP_put 2 = .ok (.putfield 59, 3) := by decide +kernel
theorem d_AP_put_5 : decode b_AP_put 5 = .ok (.aload_n 0, 1) := by decide +kernel
theorem d_AP_put_6 : decode b_AP_put 6 = .ok (.iload_n 1, 1) := by decide +kernel
theorem d_AP_put_7 : decode b_AP_put 7 = .ok (.invokevirtual 63, 3) := by decide +kernel
theorem d_AP_put_10 : decode b_AP_put 10 = .ok (.astore 4, 2) := by decide +kernel
theorem d_AP_put_12 : decode b_AP_put 12 = .ok (.aload 4, 2) := by decide +kernel
theorem d_AP_put_14 : decode b_AP_put 14 = .ok (.ifnonnull 5, 3) := by decide +kernel
theorem d_AP_put_17 : decode b_AP_put 17 = .ok (.iconst (-1), 1) := by decide +kernel
theorem d_AP_put_18 : decode b_AP_put 18 = .ok (.ireturn, 1) := by decide +kernel
theorem d_AP_put_19 : decode b_AP_put 19 = .ok (.aload 4, 2) := by decide +kernel
theorem d_AP_put_21 : decode b_AP_put 21 = .ok (.invokevirtual 221, 3) := by decide +kernel
theorem d_AP_put_24 : decode b_AP_put 24 = .ok (.ifCond .eq 9, 3) := by decide +kernel
theorem d_AP_put_27 : decode b_AP_put 27 = .ok (.aload_n 0, 1) := by decide +kernel
theorem d_AP_put_28 : decode b_AP_put 28 = .ok (.iconst 1, 1) := by decide +kernel
theorem d_AP_put_29 : decode b_AP_put 29 = .ok (.invokevirtual 75, 3) := by decide +kernel
theorem d_AP_put_32 : decode b_AP_put 32 = .ok (.ireturn, 1) := by decide +kernel
theorem d_AP_put_33 : decode b_AP_put 33 = .ok (.aload 4, 2) := by decide +kernel
theorem d_AP_put_35 : decode b_AP_put 35 = .ok (.iload_n 2, 1) := by decide +kernel
theorem d_AP_put_36 : decode b_AP_put 36 = .ok (.iconst 1, 1) := by decide +kernel
theorem d_AP_put_37 : decode b_AP_put 37 = .ok (.invokevirtual 227, 3) := by decide +kernel
theorem d_AP_put_40 : decode b_AP_put 40 = .ok (.ifCond .ne 9, 3) := by decide +kernel
theorem d_AP_put_43 : decode b_AP_put 43 = .ok (.aload_n 0, 1) := by decide +kernel
theorem d_AP_put_44 : decode b_AP_put 44 = .ok (.iconst 3, 1) := by decide +kernel
theorem d_AP_put_45 : decode b_AP_put 45 = .ok (.invokevirtual 75, 3) := by decide +kernel
theorem d_AP_put_48 : decode b_AP_put 48 = .ok (.ireturn, 1) := by decide +kernel
theorem d_AP_put_49 : decode b_AP_put 49 = .ok (.aload 4, 2) := by decide +kernel
theorem d_AP_put_51 : decode b_AP_put 51 = .ok (.getfield 79, 3) := by decide +kernel
theorem d_AP_put_54 : decode b_AP_put 54 = .ok (.iload_n 2, 1) := by decide +kernel
theorem d_AP_put_55 : decode b_AP_put 55 = .ok (.aload 4, 2) := by decide +kernel
theorem d_AP_put_57 : decode b_AP_put 57 = .ok (.iload_n 3, 1) := by decide +kernel
theorem d_AP_put_58 : decode b_AP_put 58 = .ok (.invokevirtual 231, 3) := by decide +kernel
theorem d_AP_put_61 : decode b_AP_put 61 = .ok (.iastore, 1) := by decide +kernel
theorem d_AP_put_62 : decode b_AP_put 62 = .ok (.iconst 1, 1) := by decide +kernel
theorem d_AP_put_63 : decode b_AP_put 63 = .ok (.ireturn, 1) := by decide +kernel
theorem d_AP_cell_0 : decode b_AP_cell 0 = .ok (.aload_n 0, 1) := by decide +kernel
theorem d_AP_cell_1 : decode b_AP_cell 1 = .ok (.iconst 0, 1) := by decide +kernel
theorem d_AP_cell_2 : decode b_AP_cell 2 = .ok (.putfield 59, 3) := by decide +kernel
theorem d_AP_cell_5 : decode b_AP_cell 5 = .ok (.aload_n 0, 1) := by decide +kernel
theorem d_AP_cell_6 : decode b_AP_cell 6 = .ok (.iload_n 1, 1) := by decide +kernel
theorem d_AP_cell_7 : decode b_AP_cell 7 = .ok (.invokevirtual 63, 3) := by decide +kernel
theorem d_AP_cell_10 : decode b_AP_cell 10 = .ok (.astore 4, 2) := by decide +kernel
theorem d_AP_cell_12 : decode b_AP_cell 12 = .ok (.aload 4, 2) := by decide +kernel
theorem d_AP_cell_14 : decode b_AP_cell 14 = .ok (.ifnull 12, 3) := by decide +kernel
theorem d_AP_cell_17 : decode b_AP_cell 17 = .ok (.iload_n 3, 1) := by decide +kernel
theorem d_AP_cell_18 : decode b_AP_cell 18 = .ok (.iconst 0, 1) := by decide +kernel
theorem d_AP_cell_19 : decode b_AP_cell 19 = .ok (.iconst 2, 1) := by decide +kernel
theorem d_AP_cell_20 : decode b_AP_cell 20 = .ok (.invokestatic 67, 3) := by decide +kernel
theorem d_AP_cell_23 : decode b_AP_cell 23 = .ok (.ifCond .ne 7, 3) := by decide +kernel
theorem d_AP_cell_26 : decode b_AP_cell 26 = .ok (.ldc2_w 234, 3) := by decide +kernel
theorem d_AP_cell_29 : decode b_AP_cell 29 = .ok (.lreturn, 1) := by decide +kernel
theorem d_AP_cell_30 : decode b_AP_cell 30 = .ok (.aload_n 0, 1) := by decide +kernel
theorem d_AP_cell_31 : decode b_AP_cell 31 = .ok (.aload 4, 2) := by decide +kernel
theorem d_AP_cell_33 : decode b_AP_cell 33 = .ok (.iload_n 3, 1) := by decide +kernel
theorem d_AP_cell_34 : decode b_AP_cell 34 = .ok (.iload_n 2, 1) := by decide +kernel
theorem d_AP_cell_35 : decode b_AP_cell 35 = .ok (.iconst 1, 1) := by decide +kernel
theorem d_AP_cell_36 : decode b_AP_cell 36 = .ok (.invokevirtual 71, 3) := by decide +kernel
theorem d_AP_cell_39 : decode b_AP_cell 39 = .ok (.putfield 59, 3) := by decide +kernel
theorem d_AP_cell_42 : decode b_AP_cell 42 = .ok (.aload_n 0, 1) := by decide +kernel
theorem d_AP_cell_43 : decode b_AP_cell 43 = .ok (.getfield 59, 3) := by decide +kernel
theorem d_AP_cell_46 : decode b_AP_cell 46 = .ok (.ifCond .ne 14, 3) := by decide +kernel
theorem d_AP_cell_49 : decode b_AP_cell 49 = .ok (.aload 4, 2) := by decide +kernel
theorem d_AP_cell_51 : decode b_AP_cell 51 = .ok (.getfield 79, 3) := by decide +kernel
theorem d_AP_cell_54 : decode b_AP_cell 54 = .ok (.iload_n 2, 1) := by decide +kernel
theorem d_AP_cell_55 : decode b_AP_cell 55 = .ok (.iaload, 1) := by decide +kernel
theorem d_AP_cell_56 : decode b_AP_cell 56 = .ok (.i2l, 1) := by decide +kernel
theorem d_AP_cell_57 : decode b_AP_cell 57 = .ok (.goto 6, 3) := by decide +kernel
theorem d_AP_cell_60 : decode b_AP_cell 60 = .ok (.ldc2_w 234, 3) := by decide +kernel
theorem d_AP_cell_63 : decode b_AP_cell 63 = .ok (.lreturn, 1) := by decide +kernel
theorem d_AP_copy_0 : decode b_AP_copy 0 = .ok (.aload_n 0, 1) := by decide +kernel
theorem d_AP_copy_1 : decode b_AP_copy 1 = .ok (.iconst 0, 1) := by decide +kernel
theorem d_AP_copy_2 : decode b_AP_copy 2 = .ok (.putfield 59, 3) := by decide +kernel
theorem d_AP_copy_5 : decode b_AP_copy 5 = .ok (.aload_n 0, 1) := by decide +kernel
theorem d_AP_copy_6 : decode b_AP_copy 6 = .ok (.iload_n 1, 1) := by decide +kernel
theorem d_AP_copy_7 : decode b_AP_copy 7 = .ok (.invokevirtual 63, 3) := by decide +kernel
theorem d_AP_copy_10 : decode b_AP_copy 10 = .ok (.astore 6, 2) := by decide +kernel
theorem d_AP_copy_12 : decode b_AP_copy 12 = .ok (.aload_n 0, 1) := by decide +kernel
theorem d_AP_copy_13 : decode b_AP_copy 13 = .ok (.iload_n 3, 1) := by decide +kernel
theorem d_AP_copy_14 : decode b_AP_copy 14 = .ok (.invokevirtual 63, 3) := by decide +kernel
theorem d_AP_copy_17 : decode b_AP_copy 17 = .ok (.astore 7, 2) := by decide +kernel
theorem d_AP_copy_19 : decode b_AP_copy 19 = .ok (.aload 6, 2) := by decide +kernel
theorem d_AP_copy_21 : decode b_AP_copy 21 = .ok (.ifnull 8, 3) := by decide +kernel
theorem d_AP_copy_24 : decode b_AP_copy 24 = .ok (.aload 7, 2) := by decide +kernel
theorem d_AP_copy_26 : decode b_AP_copy 26 = .ok (.ifnonnull 5, 3) := by decide +kernel
theorem d_AP_copy_29 : decode b_AP_copy 29 = .ok (.iconst (-1), 1) := by decide +kernel
theorem d_AP_copy_30 : decode b_AP_copy 30 = .ok (.ireturn, 1) := by decide +kernel
theorem d_AP_copy_31 : decode b_AP_copy 31 = .ok (.aload 6, 2) := by decide +kernel
theorem d_AP_copy_33 : decode b_AP_copy 33 = .ok (.invokevirtual 221, 3) := by decide +kernel
theorem d_AP_copy_36 : decode b_AP_copy 36 = .ok (.ifCond .ne 11, 3) := by decide +kernel
theorem d_AP_copy_39 : decode b_AP_copy 39 = .ok (.aload 7, 2) := by decide +kernel
theorem d_AP_copy_41 : decode b_AP_copy 41 = .ok (.invokevirtual 221, 3) := by decide +kernel
theorem d_AP_copy_44 : decode b_AP_copy 44 = .ok (.ifCond .eq 9, 3) := by decide +kernel
theorem d_AP_copy_47 : decode b_AP_copy 47 = .ok (.aload_n 0, 1) := by decide +kernel
theorem d_AP_copy_48 : decode b_AP_copy 48 = .ok (.iconst 1, 1) := by decide +kernel
theorem d_AP_copy_49 : decode b_AP_copy 49 = .ok (.invokevirtual 75, 3) := by decide +kernel
theorem d_AP_copy_52 : decode b_AP_copy 52 = .ok (.ireturn, 1) := by decide +kernel
theorem d_AP_copy_53 : decode b_AP_copy 53 = .ok (.aload 6, 2) := by decide +kernel
theorem d_AP_copy_55 : decode b_AP_copy 55 = .ok (.getfield 224, 3) := by decide +kernel
theorem d_AP_copy_58 : decode b_AP_copy 58 = .ok (.aload 7, 2) := by decide +kernel
theorem d_AP_copy_60 : decode b_AP_copy 60 = .ok (.getfield 224, 3) := by decide +kernel
theorem d_AP_copy_63 : decode b_AP_copy 63 = .ok (.if_icmp .eq 9, 3) := by decide +kernel
theorem d_AP_copy_66 : decode b_AP_copy 66 = .ok (.aload_n 0, 1) := by decide +kernel
theorem d_AP_copy_67 : decode b_AP_copy 67 = .ok (.iconst 2, 1) := by decide +kernel
theorem d_AP_copy_68 : decode b_AP_copy 68 = .ok (.invokevirtual 75, 3) := by decide +kernel
theorem d_AP_copy_71 : decode b_AP_copy 71 = .ok (.ireturn, 1) := by decide +kernel
theorem d_AP_copy_72 : decode b_AP_copy 72 = .ok (.aload 6, 2) := by decide +kernel
theorem d_AP_copy_74 : decode b_AP_copy 74 = .ok (.iload_n 2, 1) := by decide +kernel
theorem d_AP_copy_75 : decode b_AP_copy 75 = .ok (.iload 5, 2) := by decide +kernel
theorem d_AP_copy_77 : decode b_AP_copy 77 = .ok (.invokevirtual 227, 3) := by decide +kernel
theorem d_AP_copy_80 : decode b_AP_copy 80 = .ok (.ifCond .eq 15, 3) := by decide +kernel
theorem d_AP_copy_83 : decode b_AP_copy 83 = .ok (.aload 7, 2) := by decide +kernel
theorem d_AP_copy_85 : decode b_AP_copy 85 = .ok (.iload 4, 2) := by decide +kernel
theorem d_AP_copy_87 : decode b_AP_copy 87 = .ok (.iload 5, 2) := by decide +kernel
theorem d_AP_copy_89 : decode b_AP_copy 89 = .ok (.invokevirtual 227, 3) := by decide +kernel
theorem d_AP_copy_92 : decode b_AP_copy 92 = .ok (.ifCond .ne 9, 3) := by decide +kernel
theorem d_AP_copy_95 : decode b_AP_copy 95 = .ok (.aload_n 0, 1) := by decide +kernel
theorem d_AP_copy_96 : decode b_AP_copy 96 = .ok (.iconst 3, 1) := by decide +kernel
theorem d_AP_copy_97 : decode b_AP_copy 97 = .ok (.invokevirtual 75, 3) := by decide +kernel
theorem d_AP_copy_100 : decode b_AP_copy 100 = .ok (.ireturn, 1) := by decide +kernel
theorem d_AP_copy_101 : decode b_AP_copy 101 = .ok (.aload 6, 2) := by decide +kernel
theorem d_AP_copy_103 : decode b_AP_copy 103 = .ok (.getfield 79, 3) := by decide +kernel
theorem d_AP_copy_106 : decode b_AP_copy 106 = .ok (.iload_n 2, 1) := by decide +kernel
theorem d_AP_copy_107 : decode b_AP_copy 107 = .ok (.aload 7, 2) := by decide +kernel
theorem d_AP_copy_109 : decode b_AP_copy 109 = .ok (.getfield 79, 3) := by decide +kernel
theorem d_AP_copy_112 : decode b_AP_copy 112 = .ok (.iload 4, 2) := by decide +kernel
theorem d_AP_copy_114 : decode b_AP_copy 114 = .ok (.iload 5, 2) := by decide +kernel
theorem d_AP_copy_116 : decode b_AP_copy 116 = .ok (.invokestatic 236, 3) := by decide +kernel
theorem d_AP_copy_119 : decode b_AP_copy 119 = .ok (.iload 5, 2) := by decide +kernel
theorem d_AP_copy_121 : decode b_AP_copy 121 = .ok (.ireturn, 1) := by decide +kernel
theorem d_AP_tell_0 : decode b_AP_tell 0 = .ok (.aload_n 0, 1) := by decide +kernel
theorem d_AP_tell_1 : decode b_AP_tell 1 = .ok (.iload_n 1, 1) := by decide +kernel
theorem d_AP_tell_2 : decode b_AP_tell 2 = .ok (.invokevirtual 96, 3) := by decide +kernel
theorem d_AP_tell_5 : decode b_AP_tell 5 = .ok (.astore_n 2, 1) := by decide +kernel
theorem d_AP_tell_6 : decode b_AP_tell 6 = .ok (.aload_n 2, 1) := by decide +kernel
theorem d_AP_tell_7 : decode b_AP_tell 7 = .ok (.ifnonnull 7, 3) := by decide +kernel
theorem d_AP_tell_10 : decode b_AP_tell 10 = .ok (.iconst (-1), 1) := by decide +kernel
theorem d_AP_tell_11 : decode b_AP_tell 11 = .ok (.goto 11, 3) := by decide +kernel
theorem d_AP_tell_14 : decode b_AP_tell 14 = .ok (.aload_n 2, 1) := by decide +kernel
theorem d_AP_tell_15 : decode b_AP_tell 15 = .ok (.aload_n 0, 1) := by decide +kernel
theorem d_AP_tell_16 : decode b_AP_tell 16 = .ok (.getfield 55, 3) := by decide +kernel
theorem d_AP_tell_19 : decode b_AP_tell 19 = .ok (.invokevirtual 242, 3) := by decide +kernel
theorem d_AP_tell_22 : decode b_AP_tell 22 = .ok (.ireturn, 1) := by decide +kernel
theorem d_AP_greet_0 : decode b_AP_greet 0 = .ok (.aload_n 0, 1) := by decide +kernel
theorem d_AP_greet_1 : decode b_AP_greet 1 = .ok (.iload_n 1, 1) := by decide +kernel
theorem d_AP_greet_2 : decode b_AP_greet 2 = .ok (.invokevirtual 96, 3) := by decide +kernel
theorem d_AP_greet_5 : decode b_AP_greet 5 = .ok (.astore_n 2, 1) := by decide +kernel
theorem d_AP_greet_6 : decode b_AP_greet 6 = .ok (.aload_n 2, 1) := by decide +kernel
theorem d_AP_greet_7 : decode b_AP_greet 7 = .ok (.ifnonnull 7, 3) := by decide +kernel
theorem d_AP_greet_10 : decode b_AP_greet 10 = .ok (.iconst (-1), 1) := by decide +kernel
theorem d_AP_greet_11 : decode b_AP_greet 11 = .ok (.goto 11, 3) := by decide +kernel
theorem d_AP_greet_14 : decode b_AP_greet 14 = .ok (.aload_n 2, 1) := by decide +kernel
theorem d_AP_greet_15 : decode b_AP_greet 15 = .ok (.aload_n 0, 1) := by decide +kernel
theorem d_AP_greet_16 : decode b_AP_greet 16 = .ok (.getfield 55, 3) := by decide +kernel
theorem d_AP_greet_19 : decode b_AP_greet 19 = .ok (.invokevirtual 246, 3) := by decide +kernel
theorem d_AP_greet_22 : decode b_AP_greet 22 = .ok (.ireturn, 1) := by decide +kernel
theorem d_AP_as_0 : decode b_AP_as 0 = .ok (.aload_n 0, 1) := by decide +kernel
theorem d_AP_as_1 : decode b_AP_as 1 = .ok (.iconst 0, 1) := by decide +kernel
theorem d_AP_as_2 : decode b_AP_as 2 = .ok (.putfield 59, 3) := by decide +kernel
theorem d_AP_as_5 : decode b_AP_as 5 = .ok (.aload_n 0, 1) := by decide +kernel
theorem d_AP_as_6 : decode b_AP_as 6 = .ok (.iload_n 1, 1) := by decide +kernel
theorem d_AP_as_7 : decode b_AP_as 7 = .ok (.invokevirtual 96, 3) := by decide +kernel
theorem d_AP_as_10 : decode b_AP_as 10 = .ok (.astore_n 3, 1) := by decide +kernel
theorem d_AP_as_11 : decode b_AP_as 11 = .ok (.aload_n 3, 1) := by decide +kernel
theorem d_AP_as_12 : decode b_AP_as 12 = .ok (.ifnonnull 5, 3) := by decide +kernel
theorem d_AP_as_15 : decode b_AP_as 15 = .ok (.iconst (-1), 1) := by decide +kernel
theorem d_AP_as_16 : decode b_AP_as 16 = .ok (.ireturn, 1) := by decide +kernel
theorem d_AP_as_17 : decode b_AP_as 17 = .ok (.iload_n 2, 1) := by decide +kernel
theorem d_AP_as_18 : decode b_AP_as 18 = .ok (.iconst 0, 1) := by decide +kernel
theorem d_AP_as_19 : decode b_AP_as 19 = .ok (.iconst 2, 1) := by decide +kernel
theorem d_AP_as_20 : decode b_AP_as 20 = .ok (.invokestatic 67, 3) := by decide +kernel
theorem d_AP_as_23 : decode b_AP_as 23 = .ok (.ifCond .ne 6, 3) := by decide +kernel
theorem d_AP_as_26 : decode b_AP_as 26 = .ok (.bipush (-2), 2) := by decide +kernel
theorem d_AP_as_28 : decode b_AP_as 28 = .ok (.ireturn, 1) := by decide +kernel
theorem d_AP_as_29 : decode b_AP_as 29 = .ok (.aload_n 3, 1) := by decide +kernel
theorem d_AP_as_30 : decode b_AP_as 30 = .ok (.iload_n 2, 1) := by decide +kernel
theorem d_AP_as_31 : decode b_AP_as 31 = .ok (.invokestatic 249, 3) := by decide +kernel
theorem d_AP_as_34 : decode b_AP_as 34 = .ok (.ifCond .eq 7, 3) := by decide +kernel
theorem d_AP_as_37 : decode b_AP_as 37 = .ok (.iconst 1, 1) := by decide +kernel
theorem d_AP_as_38 : decode b_AP_as 38 = .ok (.goto 8, 3) := by decide +kernel
theorem d_AP_as_41 : decode b_AP_as 41 = .ok (.aload_n 0, 1) := by decide +kernel
theorem d_AP_as_42 : decode b_AP_as 42 = .ok (.iconst 2, 1) := by decide +kernel
theorem d_AP_as_43 : decode b_AP_as 43 = .ok (.invokevirtual 75, 3) := by decide +kernel
theorem d_AP_as_46 : decode b_AP_as 46 = .ok (.ireturn, 1) := by decide +kernel
theorem d_AP_trace_0 : decode b_AP_trace 0 = .ok (.aload_n 0, 1) := by decide +kernel
theorem d_AP_trace_1 : decode b_AP_trace 1 = .ok (.getfield 55, 3) := by decide +kernel
theorem d_AP_trace_4 : decode b_AP_trace 4 = .ok (.getfield 253, 3) := by decide +kernel
theorem d_AP_trace_7 : decode b_AP_trace 7 = .ok (.ireturn, 1) := by decide +kernel
theorem d_AP_fault_0 : decode b_AP_fault 0 = .ok (.aload_n 0, 1) := by decide +kernel
theorem d_AP_fault_1 : decode b_AP_fault 1 = .ok (.getfield 59, 3) := by decide +kernel
theorem d_AP_fault_4 : decode b_AP_fault 4 = .ok (.ireturn, 1) := by decide +kernel
theorem d_AP_many_0 : decode b_AP_many 0 = .ok (.iload_n 1, 1) := by decide +kernel
theorem d_AP_many_1 : decode b_AP_many 1 = .ok (.tableswitch 45 0 2 #[27, 32, 40], 27) := by decide +kernel
theorem d_AP_many_28 : decode b_AP_many 28 = .ok (.aload_n 0, 1) := by decide +kernel
theorem d_AP_many_29 : decode b_AP_many 29 = .ok (.getfield 93, 3) := by decide +kernel
theorem d_AP_many_32 : decode b_AP_many 32 = .ok (.ireturn, 1) := by decide +kernel
theorem d_AP_many_33 : decode b_AP_many 33 = .ok (.aload_n 0, 1) := by decide +kernel
theorem d_AP_many_34 : decode b_AP_many 34 = .ok (.getfield 27, 3) := by decide +kernel
theorem d_AP_many_37 : decode b_AP_many 37 = .ok (.getfield 156, 3) := by decide +kernel
theorem d_AP_many_40 : decode b_AP_many 40 = .ok (.ireturn, 1) := by decide +kernel
theorem d_AP_many_41 : decode b_AP_many 41 = .ok (.aload_n 0, 1) := by decide +kernel
theorem d_AP_many_42 : decode b_AP_many 42 = .ok (.getfield 110, 3) := by decide +kernel
theorem d_AP_many_45 : decode b_AP_many 45 = .ok (.ireturn, 1) := by decide +kernel
theorem d_AP_many_46 : decode b_AP_many 46 = .ok (.bipush (-2), 2) := by decide +kernel
theorem d_AP_many_48 : decode b_AP_many 48 = .ok (.ireturn, 1) := by decide +kernel
theorem d_AP_isWithin_0 : decode b_AP_isWithin 0 = .ok (.iload_n 0, 1) := by decide +kernel
theorem d_AP_isWithin_1 : decode b_AP_isWithin 1 = .ok (.iload_n 1, 1) := by decide +kernel
theorem d_AP_isWithin_2 : decode b_AP_isWithin 2 = .ok (.if_icmp .lt 12, 3) := by decide +kernel
theorem d_AP_isWithin_5 : decode b_AP_isWithin 5 = .ok (.iload_n 0, 1) := by decide +kernel
theorem d_AP_isWithin_6 : decode b_AP_isWithin 6 = .ok (.iload_n 2, 1) := by decide +kernel
theorem d_AP_isWithin_7 : decode b_AP_isWithin 7 = .ok (.if_icmp .gt 7, 3) := by decide +kernel
theorem d_AP_isWithin_10 : decode b_AP_isWithin 10 = .ok (.iconst 1, 1) := by decide +kernel
theorem d_AP_isWithin_11 : decode b_AP_isWithin 11 = .ok (.goto 4, 3) := by decide +kernel
theorem d_AP_isWithin_14 : decode b_AP_isWithin 14 = .ok (.iconst 0, 1) := by decide +kernel
theorem d_AP_isWithin_15 : decode b_AP_isWithin 15 = .ok (.ireturn, 1) := by decide +kernel
theorem d_AP_isDay_0 : decode b_AP_isDay 0 = .ok (.iload_n 0, 1) := by decide +kernel
theorem d_AP_isDay_1 : decode b_AP_isDay 1 = .ok (.iconst 0, 1) := by decide +kernel
theorem d_AP_isDay_2 : decode b_AP_isDay 2 = .ok (.bipush 99, 2) := by decide +kernel
theorem d_AP_isDay_4 : decode b_AP_isDay 4 = .ok (.invokestatic 67, 3) := by decide +kernel
theorem d_AP_isDay_7 : decode b_AP_isDay 7 = .ok (.ireturn, 1) := by decide +kernel
theorem d_AP_isOfKind_0 : decode b_AP_isOfKind 0 = .ok (.iload_n 1, 1) := by decide +kernel
theorem d_AP_isOfKind_1 : decode b_AP_isOfKind 1 = .ok (.lookupswitch 34 #[(0, 27), (1, 29)], 27) := by decide +kernel
theorem d_AP_isOfKind_28 : decode b_AP_isOfKind 28 = .ok (.iconst 1, 1) := by decide +kernel
theorem d_AP_isOfKind_29 : decode b_AP_isOfKind 29 = .ok (.ireturn, 1) := by decide +kernel
theorem d_AP_isOfKind_30 : decode b_AP_isOfKind 30 = .ok (.aload_n 0, 1) := by decide +kernel
theorem d_AP_isOfKind_31 : decode b_AP_isOfKind 31 = .ok (.instanceof 256, 3) := by decide +kernel
theorem d_AP_isOfKind_34 : decode b_AP_isOfKind 34 = .ok (.ireturn, 1) := by decide +kernel
theorem d_AP_isOfKind_35 : decode b_AP_isOfKind 35 = .ok (.aload_n 0, 1) := by decide +kernel
theorem d_AP_isOfKind_36 : decode b_AP_isOfKind 36 = .ok (.instanceof 258, 3) := by decide +kernel
theorem d_AP_isOfKind_39 : decode b_AP_isOfKind 39 = .ok (.ireturn, 1) := by decide +kernel
theorem d_AP_personAt_0 : decode b_AP_personAt 0 = .ok (.iload_n 1, 1) := by decide +kernel
theorem d_AP_personAt_1 : decode b_AP_personAt 1 = .ok (.ifCond .lt 20, 3) := by decide +kernel
theorem d_AP_personAt_4 : decode b_AP_personAt 4 = .ok (.iload_n 1, 1) := by decide +kernel
theorem d_AP_personAt_5 : decode b_AP_personAt 5 = .ok (.aload_n 0, 1) := by decide +kernel
theorem d_AP_personAt_6 : decode b_AP_personAt 6 = .ok (.getfield 93, 3) := by decide +kernel
theorem d_AP_personAt_9 : decode b_AP_personAt 9 = .ok (.if_icmp .ge 12, 3) := by decide +kernel
theorem d_AP_personAt_12 : decode b_AP_personAt 12 = .ok (.aload_n 0, 1) := by decide +kernel
theorem d_AP_personAt_13 : decode b_AP_personAt 13 = .ok (.getfield 20, 3) := by decide +kernel
theorem d_AP_personAt_16 : decode b_AP_personAt 16 = .ok (.iload_n 1, 1) := by decide +kernel
theorem d_AP_personAt_17 : decode b_AP_personAt 17 = .ok (.aaload, 1) := by decide +kernel
theorem d_AP_personAt_18 : decode b_AP_personAt 18 = .ok (.goto 4, 3) := by decide +kernel
theorem d_AP_personAt_21 : decode b_AP_personAt 21 = .ok (.aconst_null, 1) := by decide +kernel
theorem d_AP_personAt_22 : decode b_AP_personAt 22 = .ok (.areturn, 1) := by decide +kernel
theorem d_AP_sheetAt_0 : decode b_AP_sheetAt 0 = .ok (.iload_n 1, 1) := by decide +kernel
theorem d_AP_sheetAt_1 : decode b_AP_sheetAt 1 = .ok (.iconst 0, 1) := by decide +kernel
theorem d_AP_sheetAt_2 : decode b_AP_sheetAt 2 = .ok (.iconst 3, 1) := by decide +kernel
theorem d_AP_sheetAt_3 : decode b_AP_sheetAt 3 = .ok (.invokestatic 67, 3) := by decide +kernel
theorem d_AP_sheetAt_6 : decode b_AP_sheetAt 6 = .ok (.ifCond .eq 12, 3) := by decide +kernel
theorem d_AP_sheetAt_9 : decode b_AP_sheetAt 9 = .ok (.aload_n 0, 1) := by decide +kernel
theorem d_AP_sheetAt_10 : decode b_AP_sheetAt 10 = .ok (.getfield 13, 3) := by decide +kernel
theorem d_AP_sheetAt_13 : decode b_AP_sheetAt 13 = .ok (.iload_n 1, 1) := by decide +kernel
theorem d_AP_sheetAt_14 : decode b_AP_sheetAt 14 = .ok (.aaload, 1) := by decide +kernel
theorem d_AP_sheetAt_15 : decode b_AP_sheetAt 15 = .ok (.goto 4, 3) := by decide +kernel
theorem d_AP_sheetAt_18 : decode b_AP_sheetAt 18 = .ok (.aconst_null, 1) := by decide +kernel
theorem d_AP_sheetAt_19 : decode b_AP_sheetAt 19 = .ok (.areturn, 1) := by decide +kernel
theorem d_AP_faulted_0 : decode b_AP_faulted 0 = .ok (.aload_n 0, 1) := by decide +kernel
theorem d_AP_faulted_1 : decode b_AP_faulted 1 = .ok (.iload_n 1, 1) := by decide +kernel
theorem d_AP_faulted_2 : decode b_AP_faulted 2 = .ok (.putfield 59, 3) := by decide +kernel
theorem d_AP_faulted_5 : decode b_AP_faulted 5 = .ok (.bipush (-10), 2) := by decide +kernel
theorem d_AP_faulted_7 : decode b_AP_faulted 7 = .ok (.iload_n 1, 1) := by decide +kernel
theorem d_AP_faulted_8 : decode b_AP_faulted 8 = .ok (.isub, 1) := by decide +kernel
theorem d_AP_faulted_9 : decode b_AP_faulted 9 = .ok (.ireturn, 1) := by decide +kernel
theorem d_AP_settle_0 : decode b_AP_settle 0 = .ok (.aload_n 0, 1) := by decide +kernel
theorem d_AP_settle_1 : decode b_AP_settle 1 = .ok (.iload_n 3, 1) := by decide +kernel
theorem d_AP_settle_2 : decode b_AP_settle 2 = .ok (.invokestatic 260, 3) := by decide +kernel
theorem d_AP_settle_5 : decode b_AP_settle 5 = .ok (.putfield 93, 3) := by decide +kernel
theorem d_AP_settle_8 : decode b_AP_settle 8 = .ok (.iconst 0, 1) := by decide +kernel
theorem d_AP_settle_9 : decode b_AP_settle 9 = .ok (.istore 4, 2) := by decide +kernel
theorem d_AP_settle_11 : decode b_AP_settle 11 = .ok (.iload 4, 2) := by decide +kernel
theorem d_AP_settle_13 : decode b_AP_settle 13 = .ok (.aload_n 0, 1) := by decide +kernel
theorem d_AP_settle_14 : decode b_AP_settle 14 = .ok (.getfield 93, 3) := by decide +kernel
theorem d_AP_settle_17 : decode b_AP_settle 17 = .ok (.if_icmp .ge 42, 3) := by decide +kernel
theorem d_AP_settle_20 : decode b_AP_settle 20 = .ok (.iload_n 2, 1) := by decide +kernel
theorem d_AP_settle_21 : decode b_AP_settle 21 = .ok (.iload 4, 2) := by decide +kernel
theorem d_AP_settle_23 : decode b_AP_settle 23 = .ok (.invokestatic 263, 3) := by decide +kernel
theorem d_AP_settle_26 : decode b_AP_settle 26 = .ok (.iadd, 1) := by decide +kernel
theorem d_AP_settle_27 : decode b_AP_settle 27 = .ok (.istore 5, 2) := by decide +kernel
theorem d_AP_settle_29 : decode b_AP_settle 29 = .ok (.aload_n 0, 1) := by decide +kernel
theorem d_AP_settle_30 : decode b_AP_settle 30 = .ok (.getfield 20, 3) := by decide +kernel
theorem d_AP_settle_33 : decode b_AP_settle 33 = .ok (.iload 4, 2) := by decide +kernel
theorem d_AP_settle_35 : decode b_AP_settle 35 = .ok (.aload_n 1, 1) := by decide +kernel
theorem d_AP_settle_36 : decode b_AP_settle 36 = .ok (.iload 5, 2) := by decide +kernel
theorem d_AP_settle_38 : decode b_AP_settle 38 = .ok (.iaload, 1) := by decide +kernel
theorem d_AP_settle_39 : decode b_AP_settle 39 = .ok (.iload 4, 2) := by decide +kernel
theorem d_AP_settle_41 : decode b_AP_settle 41 = .ok (.aload_n 1, 1) := by decide +kernel
theorem d_AP_settle_42 : decode b_AP_settle 42 = .ok (.iload 5, 2) := by decide +kernel
theorem d_AP_settle_44 : decode b_AP_settle 44 = .ok (.iconst 1, 1) := by decide +kernel
theorem d_AP_settle_45 : decode b_AP_settle 45 = .ok (.iadd, 1) := by decide +kernel
theorem d_AP_settle_46 : decode b_AP_settle 46 = .ok (.invokestatic 266, 3) := by decide +kernel
theorem d_AP_settle_49 : decode b_AP_settle 49 = .ok (.invokestatic 270, 3) := by decide +kernel
theorem d_AP_settle_52 : decode b_AP_settle 52 = .ok (.aastore, 1) := by decide +kernel
theorem d_AP_settle_53 : decode b_AP_settle 53 = .ok (.iinc 4 1, 3) := by decide +kernel
theorem d_AP_settle_56 : decode b_AP_settle 56 = .ok (.goto (-45), 3) := by decide +kernel
theorem d_AP_settle_59 : decode b_AP_settle 59 = .ok (.aload_n 0, 1) := by decide +kernel
theorem d_AP_settle_60 : decode b_AP_settle 60 = .ok (.getfield 27, 3) := by decide +kernel
theorem d_AP_settle_63 : decode b_AP_settle 63 = .ok (.aload_n 0, 1) := by decide +kernel
theorem d_AP_settle_64 : decode b_AP_settle 64 = .ok (.getfield 27, 3) := by decide +kernel
theorem d_AP_settle_67 : decode b_AP_settle 67 = .ok (.getfield 156, 3) := by decide +kernel
theorem d_AP_settle_70 : decode b_AP_settle 70 = .ok (.invokevirtual 159, 3) := by decide +kernel
theorem d_AP_settle_73 : decode b_AP_settle 73 = .ok (.aload_n 0, 1) := by decide +kernel
theorem d_AP_settle_74 : decode b_AP_settle 74 = .ok (.iconst 0, 1) := by decide +kernel
theorem d_AP_settle_75 : decode b_AP_settle 75 = .ok (.putfield 110, 3) := by decide +kernel
theorem d_AP_settle_78 : decode b_AP_settle 78 = .ok (.return_, 1) := by decide +kernel
theorem d_AP_newPerson_0 : decode b_AP_newPerson 0 = .ok (.iload_n 0, 1) := by decide +kernel
theorem d_AP_newPerson_1 : decode b_AP_newPerson 1 = .ok (.lookupswitch 47 #[(108, 37), (109, 27)], 27) := by decide +kernel
theorem d_AP_newPerson_28 : decode b_AP_newPerson 28 = .ok (.new 256, 3) := by decide +kernel
theorem d_AP_newPerson_31 : decode b_AP_newPerson 31 = .ok (.dup, 1) := by decide +kernel
theorem d_AP_newPerson_32 : decode b_AP_newPerson 32 = .ok (.iload_n 1, 1) := by decide +kernel
theorem d_AP_newPerson_33 : decode b_AP_newPerson 33 = .ok (.iload_n 2, 1) := by decide +kernel
theorem d_AP_newPerson_34 : decode b_AP_newPerson 34 = .ok (.invokespecial 274, 3) := by decide +kernel
theorem d_AP_newPerson_37 : decode b_AP_newPerson 37 = .ok (.areturn, 1) := by decide +kernel
theorem d_AP_newPerson_38 : decode b_AP_newPerson 38 = .ok (.new 258, 3) := by decide +kernel
theorem d_AP_newPerson_41 : decode b_AP_newPerson 41 = .ok (.dup, 1) := by decide +kernel
theorem d_AP_newPerson_42 : decode b_AP_newPerson 42 = .ok (.iload_n 1, 1) := by decide +kernel
theorem d_AP_newPerson_43 : decode b_AP_newPerson 43 = .ok (.iload_n 2, 1) := by decide +kernel
theorem d_AP_newPerson_44 : decode b_AP_newPerson 44 = .ok (.invokespecial 276, 3) := by decide +kernel
theorem d_AP_newPerson_47 : decode b_AP_newPerson 47 = .ok (.areturn, 1) := by decide +kernel
theorem d_AP_newPerson_48 : decode b_AP_newPerson 48 = .ok (.new 18, 3) := by decide +kernel
theorem d_AP_newPerson_51 : decode b_AP_newPerson 51 = .ok (.dup, 1) := by decide +kernel
theorem d_AP_newPerson_52 : decode b_AP_newPerson 52 = .ok (.iload_n 1, 1) := by decide +kernel
theorem d_AP_newPerson_53 : decode b_AP_newPerson 53 = .ok (.iload_n 2, 1) := by decide +kernel
theorem d_AP_newPerson_54 : decode b_AP_newPerson 54 = .ok (.invokespecial 277, 3) := by decide +kernel
theorem d_AP_newPerson_57 : decode b_AP_newPerson 57 = .ok (.areturn, 1) := by decide +kernel
theorem d_AP_pays_0 : decode b_AP_pays 0 = .ok (.iload_n 0, 1) := by decide +kernel
theorem d_AP_pays_1 : decode b_AP_pays 1 = .ok (.iconst 2, 1) := by decide +kernel
theorem d_AP_pays_2 : decode b_AP_pays 2 = .ok (.if_icmp .eq 8, 3) := by decide +kernel
theorem d_AP_pays_5 : decode b_AP_pays 5 = .ok (.iload_n 1, 1) := by decide +kernel
theorem d_AP_pays_6 : decode b_AP_pays 6 = .ok (.iload_n 2, 1) := by decide +kernel
theorem d_AP_pays_7 : decode b_AP_pays 7 = .ok (.if_icmp .ne 5, 3) := by decide +kernel
theorem d_AP_pays_10 : decode b_AP_pays 10 = .ok (.iload_n 1, 1) := by decide +kernel
theorem d_AP_pays_11 : decode b_AP_pays 11 = .ok (.ireturn, 1) := by decide +kernel
theorem d_AP_pays_12 : decode b_AP_pays 12 = .ok (.iload_n 1, 1) := by decide +kernel
theorem d_AP_pays_13 : decode b_AP_pays 13 = .ok (.iload_n 2, 1) := by decide +kernel
theorem d_AP_pays_14 : decode b_AP_pays 14 = .ok (.if_icmp .ge 7, 3) := by decide +kernel
theorem d_AP_pays_17 : decode b_AP_pays 17 = .ok (.iconst 1, 1) := by decide +kernel
theorem d_AP_pays_18 : decode b_AP_pays 18 = .ok (.goto 4, 3) := by decide +kernel
theorem d_AP_pays_21 : decode b_AP_pays 21 = .ok (.iconst 0, 1) := by decide +kernel
theorem d_AP_pays_22 : decode b_AP_pays 22 = .ok (.istore_n 3, 1) := by decide +kernel
theorem d_AP_pays_23 : decode b_AP_pays 23 = .ok (.iload_n 3, 1) := by decide +kernel
theorem d_AP_pays_24 : decode b_AP_pays 24 = .ok (.iload_n 0, 1) := by decide +kernel
theorem d_AP_pays_25 : decode b_AP_pays 25 = .ok (.ifCond .ne 7, 3) := by decide +kernel
theorem d_AP_pays_28 : decode b_AP_pays 28 = .ok (.iconst 1, 1) := by decide +kernel
theorem d_AP_pays_29 : decode b_AP_pays 29 = .ok (.goto 4, 3) := by decide +kernel
theorem d_AP_pays_32 : decode b_AP_pays 32 = .ok (.iconst 0, 1) := by decide +kernel
theorem d_AP_pays_33 : decode b_AP_pays 33 = .ok (.if_icmp .ne 9, 3) := by decide +kernel
theorem d_AP_pays_36 : decode b_AP_pays 36 = .ok (.iload_n 1, 1) := by decide +kernel
theorem d_AP_pays_37 : decode b_AP_pays 37 = .ok (.iload_n 2, 1) := by decide +kernel
theorem d_AP_pays_38 : decode b_AP_pays 38 = .ok (.iadd, 1) := by decide +kernel
theorem d_AP_pays_39 : decode b_AP_pays 39 = .ok (.goto 4, 3) := by decide +kernel
theorem d_AP_pays_42 : decode b_AP_pays 42 = .ok (.iconst 0, 1) := by decide +kernel
theorem d_AP_pays_43 : decode b_AP_pays 43 = .ok (.ireturn, 1) := by decide +kernel
theorem d_MO_init_0 : decode b_MO_init 0 = .ok (.aload_n 0, 1) := by decide +kernel
theorem d_MO_init_1 : decode b_MO_init 1 = .ok (.invokespecial 1, 3) := by decide +kernel
theorem d_MO_init_4 : decode b_MO_init 4 = .ok (.aload_n 0, 1) := by decide +kernel
theorem d_MO_init_5 : decode b_MO_init 5 = .ok (.iconst 4, 1) := by decide +kernel
theorem d_MO_init_6 : decode b_MO_init 6 = .ok (.newarray .int, 2) := by decide +kernel
theorem d_MO_init_8 : decode b_MO_init 8 = .ok (.dup, 1) := by decide +kernel
theorem d_MO_init_9 : decode b_MO_init 9 = .ok (.iconst 0, 1) := by decide +kernel
theorem d_MO_init_10 : decode b_MO_init 10 = .ok (.bipush (-9), 2) := by decide +kernel
theorem d_MO_init_12 : decode b_MO_init 12 = .ok (.iastore, 1) := by decide +kernel
theorem d_MO_init_13 : decode b_MO_init 13 = .ok (.dup, 1) := by decide +kernel
theorem d_MO_init_14 : decode b_MO_init 14 = .ok (.iconst 1, 1) := by decide +kernel
theorem d_MO_init_15 : decode b_MO_init 15 = .ok (.bipush (-9), 2) := by decide +kernel
theorem d_MO_init_17 : decode b_MO_init 17 = .ok (.iastore, 1) := by decide +kernel
theorem d_MO_init_18 : decode b_MO_init 18 = .ok (.dup, 1) := by decide +kernel
theorem d_MO_init_19 : decode b_MO_init 19 = .ok (.iconst 2, 1) := by decide +kernel
theorem d_MO_init_20 : decode b_MO_init 20 = .ok (.bipush (-9), 2) := by decide +kernel
theorem d_MO_init_22 : decode b_MO_init 22 = .ok (.iastore, 1) := by decide +kernel
theorem d_MO_init_23 : decode b_MO_init 23 = .ok (.dup, 1) := by decide +kernel
theorem d_MO_init_24 : decode b_MO_init 24 = .ok (.iconst 3, 1) := by decide +kernel
theorem d_MO_init_25 : decode b_MO_init 25 = .ok (.bipush (-9), 2) := by decide +kernel
theorem d_MO_init_27 : decode b_MO_init 27 = .ok (.iastore, 1) := by decide +kernel
theorem d_MO_init_28 : decode b_MO_init 28 = .ok (.putfield 9, 3) := by decide +kernel
theorem d_MO_init_31 : decode b_MO_init 31 = .ok (.aload_n 0, 1) := by decide +kernel
theorem d_MO_init_32 : decode b_MO_init 32 = .ok (.iconst 4, 1) := by decide +kernel
theorem d_MO_init_33 : decode b_MO_init 33 = .ok (.newarray .int, 2) := by decide +kernel
theorem d_MO_init_35 : decode b_MO_init 35 = .ok (.putfield 13, 3) := by decide +kernel
theorem d_MO_init_38 : decode b_MO_init 38 = .ok (.aload_n 0, 1) := by decide +kernel
theorem d_MO_init_39 : decode b_MO_init 39 = .ok (.sipush 160, 3) := by decide +kernel
theorem d_MO_init_42 : decode b_MO_init 42 = .ok (.newarray .int, 2) := by decide +kernel
theorem d_MO_init_44 : decode b_MO_init 44 = .ok (.putfield 16, 3) := by decide +kernel
theorem d_MO_init_47 : decode b_MO_init 47 = .ok (.aload_n 0, 1) := by decide +kernel
theorem d_MO_init_48 : decode b_MO_init 48 = .ok (.bipush 6, 2) := by decide +kernel
theorem d_MO_init_50 : decode b_MO_init 50 = .ok (.newarray .int, 2) := by decide +kernel
theorem d_MO_init_52 : decode b_MO_init 52 = .ok (.putfield 19, 3) := by decide +kernel
theorem d_MO_init_55 : decode b_MO_init 55 = .ok (.aload_n 0, 1) := by decide +kernel
theorem d_MO_init_56 : decode b_MO_init 56 = .ok (.bipush 6, 2) := by decide +kernel
theorem d_MO_init_58 : decode b_MO_init 58 = .ok (.newarray .int, 2) := by decide +kernel
theorem d_MO_init_60 : decode b_MO_init 60 = .ok (.putfield 22, 3) := by decide +kernel
theorem d_MO_init_63 : decode b_MO_init 63 = .ok (.aload_n 0, 1) := by decide +kernel
theorem d_MO_init_64 : decode b_MO_init 64 = .ok (.bipush 6, 2) := by decide +kernel
theorem d_MO_init_66 : decode b_MO_init 66 = .ok (.newarray .int, 2) := by decide +kernel
theorem d_MO_init_68 : decode b_MO_init 68 = .ok (.putfield 25, 3) := by decide +kernel
theorem d_MO_init_71 : decode b_MO_init 71 = .ok (.aload_n 0, 1) := by decide +kernel
theorem d_MO_init_72 : decode b_MO_init 72 = .ok (.bipush 6, 2) := by decide +kernel
theorem d_MO_init_74 : decode b_MO_init 74 = .ok (.newarray .int, 2) := by decide +kernel
theorem d_MO_init_76 : decode b_MO_init 76 = .ok (.putfield 28, 3) := by decide +kernel
theorem d_MO_init_79 : decode b_MO_init 79 = .ok (.aload_n 0, 1) := by decide +kernel
theorem d_MO_init_80 : decode b_MO_init 80 = .ok (.bipush 24, 2) := by decide +kernel
theorem d_MO_init_82 : decode b_MO_init 82 = .ok (.newarray .int, 2) := by decide +kernel
theorem d_MO_init_84 : decode b_MO_init 84 = .ok (.putfield 31, 3) := by decide +kernel
theorem d_MO_init_87 : decode b_MO_init 87 = .ok (.aload_n 0, 1) := by decide +kernel
theorem d_MO_init_88 : decode b_MO_init 88 = .ok (.bipush 24, 2) := by decide +kernel
theorem d_MO_init_90 : decode b_MO_init 90 = .ok (.newarray .int, 2) := by decide +kernel
theorem d_MO_init_92 : decode b_MO_init 92 = .ok (.putfield 34, 3) := by decide +kernel
theorem d_MO_init_95 : decode b_MO_init 95 = .ok (.aload_n 0, 1) := by decide +kernel
theorem d_MO_init_96 : decode b_MO_init 96 = .ok (.bipush 24, 2) := by decide +kernel
theorem d_MO_init_98 : decode b_MO_init 98 = .ok (.newarray .int, 2) := by decide +kernel
theorem d_MO_init_100 : decode b_MO_init 100 = .ok (.putfield 37, 3) := by decide +kernel
theorem d_MO_init_103 : decode b_MO_init 103 = .ok (.aload_n 0, 1) := by decide +kernel
theorem d_MO_init_104 : decode b_MO_init 104 = .ok (.bipush 24, 2) := by decide +kernel
theorem d_MO_init_106 : decode b_MO_init 106 = .ok (.newarray .int, 2) := by decide +kernel
theorem d_MO_init_108 : decode b_MO_init 108 = .ok (.putfield 40, 3) := by decide +kernel
theorem d_MO_init_111 : decode b_MO_init 111 = .ok (.aload_n 0, 1) := by decide +kernel
theorem d_MO_init_112 : decode b_MO_init 112 = .ok (.bipush 24, 2) := by decide +kernel
theorem d_MO_init_114 : decode b_MO_init 114 = .ok (.newarray .int, 2) := by decide +kernel
theorem d_MO_init_116 : decode b_MO_init 116 = .ok (.putfield 43, 3) := by decide +kernel
theorem d_MO_init_119 : decode b_MO_init 119 = .ok (.aload_n 0, 1) := by decide +kernel
theorem d_MO_init_120 : decode b_MO_init 120 = .ok (.bipush 24, 2) := by decide +kernel
theorem d_MO_init_122 : decode b_MO_init 122 = .ok (.newarray .int, 2) := by decide +kernel
theorem d_MO_init_124 : decode b_MO_init 124 = .ok (.putfield 46, 3) := by decide +kernel
theorem d_MO_init_127 : decode b_MO_init 127 = .ok (.aload_n 0, 1) := by decide +kernel
theorem d_MO_init_128 : decode b_MO_init 128 = .ok (.bipush 64, 2) := by decide +kernel
theorem d_MO_init_130 : decode b_MO_init 130 = .ok (.newarray .int, 2) := by decide +kernel
theorem d_MO_init_132 : decode b_MO_init 132 = .ok (.putfield 49, 3) := by decide +kernel
theorem d_MO_init_135 : decode b_MO_init 135 = .ok (.aload_n 0, 1) := by decide +kernel
theorem d_MO_init_136 : decode b_MO_init 136 = .ok (.bipush 64, 2) := by decide +kernel
theorem d_MO_init_138 : decode b_MO_init 138 = .ok (.newarray .int, 2) := by decide +kernel
theorem d_MO_init_140 : decode b_MO_init 140 = .ok (.putfield 52, 3) := by decide +kernel
theorem d_MO_init_143 : decode b_MO_init 143 = .ok (.aload_n 0, 1) := by decide +kernel
theorem d_MO_init_144 : decode b_MO_init 144 = .ok (.sipush 369, 3) := by decide +kernel
theorem d_MO_init_147 : decode b_MO_init 147 = .ok (.newarray .int, 2) := by decide +kernel
theorem d_MO_init_149 : decode b_MO_init 149 = .ok (.putfield 55, 3) := by decide +kernel
theorem d_MO_init_152 : decode b_MO_init 152 = .ok (.aload_n 0, 1) := by decide +kernel
theorem d_MO_init_153 : decode b_MO_init 153 = .ok (.sipush 369, 3) := by decide +kernel
theorem d_MO_init_156 : decode b_MO_init 156 = .ok (.newarray .int, 2) := by decide +kernel
theorem d_MO_init_158 : decode b_MO_init 158 = .ok (.putfield 58, 3) := by decide +kernel
theorem d_MO_init_161 : decode b_MO_init 161 = .ok (.aload_n 0, 1) := by decide +kernel
theorem d_MO_init_162 : decode b_MO_init 162 = .ok (.sipush 369, 3) := by decide +kernel
theorem d_MO_init_165 : decode b_MO_init 165 = .ok (.newarray .int, 2) := by decide +kernel
theorem d_MO_init_167 : decode b_MO_init 167 = .ok (.putfield 61, 3) := by decide +kernel
theorem d_MO_init_170 : decode b_MO_init 170 = .ok (.aload_n 0, 1) := by decide +kernel
theorem d_MO_init_171 : decode b_MO_init 171 = .ok (.sipush 700, 3) := by decide +kernel
theorem d_MO_init_174 : decode b_MO_init 174 = .ok (.newarray .int, 2) := by decide +kernel
theorem d_MO_init_176 : decode b_MO_init 176 = .ok (.putfield 64, 3) := by decide +kernel
theorem d_MO_init_179 : decode b_MO_init 179 = .ok (.aload_n 0, 1) := by decide +kernel
theorem d_MO_init_180 : decode b_MO_init 180 = .ok (.bipush 6, 2) := by decide +kernel
theorem d_MO_init_182 : decode b_MO_init 182 = .ok (.newarray .int, 2) := by decide +kernel
theorem d_MO_init_184 : decode b_MO_init 184 = .ok (.putfield 67, 3) := by decide +kernel
theorem d_MO_init_187 : decode b_MO_init 187 = .ok (.return_, 1) := by decide +kernel
theorem d_MO_fails_0 : decode b_MO_fails 0 = .ok (.aload_n 0, 1) := by decide +kernel
theorem d_MO_fails_1 : decode b_MO_fails 1 = .ok (.iload_n 1, 1) := by decide +kernel
theorem d_MO_fails_2 : decode b_MO_fails 2 = .ok (.putfield 70, 3) := by decide +kernel
theorem d_MO_fails_5 : decode b_MO_fails 5 = .ok (.bipush (-10), 2) := by decide +kernel
theorem d_MO_fails_7 : decode b_MO_fails 7 = .ok (.iload_n 1, 1) := by decide +kernel
theorem d_MO_fails_8 : decode b_MO_fails 8 = .ok (.isub, 1) := by decide +kernel
theorem d_MO_fails_9 : decode b_MO_fails 9 = .ok (.ireturn, 1) := by decide +kernel
theorem d_MO_lost_0 : decode b_MO_lost 0 = .ok (.aload_n 0, 1) := by decide +kernel
theorem d_MO_lost_1 : decode b_MO_lost 1 = .ok (.iload_n 1, 1) := by decide +kernel
theorem d_MO_lost_2 : decode b_MO_lost 2 = .ok (.putfield 70, 3) := by decide +kernel
theorem d_MO_lost_5 : decode b_MO_lost 5 = .ok (.ldc2_w 74, 3) := by decide +kernel
theorem d_MO_lost_8 : decode b_MO_lost 8 = .ok (.lreturn, 1) := by decide +kernel
theorem d_MO_within_0 : decode b_MO_within 0 = .ok (.iload_n 0, 1) := by decide +kernel
theorem d_MO_within_1 : decode b_MO_within 1 = .ok (.iload_n 1, 1) := by decide +kernel
theorem d_MO_within_2 : decode b_MO_within 2 = .ok (.if_icmp .lt 12, 3) := by decide +kernel
theorem d_MO_within_5 : decode b_MO_within 5 = .ok (.iload_n 0, 1) := by decide +kernel
theorem d_MO_within_6 : decode b_MO_within 6 = .ok (.iload_n 2, 1) := by decide +kernel
theorem d_MO_within_7 : decode b_MO_within 7 = .ok (.if_icmp .gt 7, 3) := by decide +kernel
theorem d_MO_within_10 : decode b_MO_within 10 = .ok (.iconst 1, 1) := by decide +kernel
theorem d_MO_within_11 : decode b_MO_within 11 = .ok (.goto 4, 3) := by decide +kernel
theorem d_MO_within_14 : decode b_MO_within 14 = .ok (.iconst 0, 1) := by decide +kernel
theorem d_MO_within_15 : decode b_MO_within 15 = .ok (.ireturn, 1) := by decide +kernel
theorem d_MO_isSheet_0 : decode b_MO_isSheet 0 = .ok (.iload_n 0, 1) := by decide +kernel
theorem d_MO_isSheet_1 : decode b_MO_isSheet 1 = .ok (.iconst 0, 1) := by decide +kernel
theorem d_MO_isSheet_2 : decode b_MO_isSheet 2 = .ok (.iconst 3, 1) := by decide +kernel
theorem d_MO_isSheet_3 : decode b_MO_isSheet 3 = .ok (.invokestatic 76, 3) := by decide +kernel
theorem d_MO_isSheet_6 : decode b_MO_isSheet 6 = .ok (.ireturn, 1) := by decide +kernel
theorem d_MO_isSort_0 : decode b_MO_isSort 0 = .ok (.iload_n 0, 1) := by decide +kernel
theorem d_MO_isSort_1 : decode b_MO_isSort 1 = .ok (.iconst 0, 1) := by decide +kernel
theorem d_MO_isSort_2 : decode b_MO_isSort 2 = .ok (.iconst 2, 1) := by decide +kernel
theorem d_MO_isSort_3 : decode b_MO_isSort 3 = .ok (.invokestatic 76, 3) := by decide +kernel
theorem d_MO_isSort_6 : decode b_MO_isSort 6 = .ok (.ireturn, 1) := by decide +kernel
theorem d_MO_against_0 : decode b_MO_against 0 = .ok (.aload_n 0, 1) := by decide +kernel
theorem d_MO_against_1 : decode b_MO_against 1 = .ok (.getfield 9, 3) := by decide +kernel
theorem d_MO_against_4 : decode b_MO_against 4 = .ok (.iload_n 1, 1) := by decide +kernel
theorem d_MO_against_5 : decode b_MO_against 5 = .ok (.iaload, 1) := by decide +kernel
theorem d_MO_against_6 : decode b_MO_against 6 = .ok (.bipush (-9), 2) := by decide +kernel
theorem d_MO_against_8 : decode b_MO_against 8 = .ok (.if_icmp .eq 15, 3) := by decide +kernel
theorem d_MO_against_11 : decode b_MO_against 11 = .ok (.aload_n 0, 1) := by decide +kernel
theorem d_MO_against_12 : decode b_MO_against 12 = .ok (.getfield 9, 3) := by decide +kernel
theorem d_MO_against_15 : decode b_MO_against 15 = .ok (.iload_n 1, 1) := by decide +kernel
theorem d_MO_against_16 : decode b_MO_against 16 = .ok (.iaload, 1) := by decide +kernel
theorem d_MO_against_17 : decode b_MO_against 17 = .ok (.iload_n 2, 1) := by decide +kernel
theorem d_MO_against_18 : decode b_MO_against 18 = .ok (.if_icmp .eq 5, 3) := by decide +kernel
theorem d_MO_against_21 : decode b_MO_against 21 = .ok (.iconst 2, 1) := by decide +kernel
theorem d_MO_against_22 : decode b_MO_against 22 = .ok (.ireturn, 1) := by decide +kernel
theorem d_MO_against_23 : decode b_MO_against 23 = .ok (.aload_n 0, 1) := by decide +kernel
theorem d_MO_against_24 : decode b_MO_against 24 = .ok (.getfield 9, 3) := by decide +kernel
theorem d_MO_against_27 : decode b_MO_against 27 = .ok (.iload_n 1, 1) := by decide +kernel
theorem d_MO_against_28 : decode b_MO_against 28 = .ok (.iaload, 1) := by decide +kernel
theorem d_MO_against_29 : decode b_MO_against 29 = .ok (.bipush (-9), 2) := by decide +kernel
theorem d_MO_against_31 : decode b_MO_against 31 = .ok (.if_icmp .ne 5, 3) := by decide +kernel
theorem d_MO_against_34 : decode b_MO_against 34 = .ok (.iconst 1, 1) := by decide +kernel
theorem d_MO_against_35 : decode b_MO_against 35 = .ok (.ireturn, 1) := by decide +kernel
theorem d_MO_against_36 : decode b_MO_against 36 = .ok (.iload 4, 2) := by decide +kernel
theorem d_MO_against_38 : decode b_MO_against 38 = .ok (.ifCond .ge 5, 3) := by decide +kernel
theorem d_MO_against_41 : decode b_MO_against 41 = .ok (.iconst 4, 1) := by decide +kernel
theorem d_MO_against_42 : decode b_MO_against 42 = .ok (.ireturn, 1) := by decide +kernel
theorem d_MO_against_43 : decode b_MO_against 43 = .ok (.iload_n 3, 1) := by decide +kernel
theorem d_MO_against_44 : decode b_MO_against 44 = .ok (.ifCond .lt 26, 3) := by decide +kernel
theorem d_MO_against_47 : decode b_MO_against 47 = .ok (.iload_n 3, 1) := by decide +kernel
theorem d_MO_against_48 : decode b_MO_against 48 = .ok (.aload_n 0, 1) := by decide +kernel
theorem d_MO_against_49 : decode b_MO_against 49 = .ok (.getfield 13, 3) := by decide +kernel
theorem d_MO_against_52 : decode b_MO_against 52 = .ok (.iload_n 1, 1) := by decide +kernel
theorem d_MO_against_53 : decode b_MO_against 53 = .ok (.iaload, 1) := by decide +kernel
theorem d_MO_against_54 : decode b_MO_against 54 = .ok (.if_icmp .gt 16, 3) := by decide +kernel
theorem d_MO_against_57 : decode b_MO_against 57 = .ok (.iload 4, 2) := by decide +kernel
theorem d_MO_against_59 : decode b_MO_against 59 = .ok (.aload_n 0, 1) := by decide +kernel
theorem d_MO_against_60 : decode b_MO_against 60 = .ok (.getfield 13, 3) := by decide +kernel
theorem d_MO_against_63 : decode b_MO_against 63 = .ok (.iload_n 1, 1) := by decide +kernel
theorem d_MO_against_64 : decode b_MO_against 64 = .ok (.iaload, 1) := by decide +kernel
theorem d_MO_against_65 : decode b_MO_against 65 = .ok (.iload_n 3, 1) := by decide +kernel
theorem d_MO_against_66 : decode b_MO_against 66 = .ok (.isub, 1) := by decide +kernel
theorem d_MO_against_67 : decode b_MO_against 67 = .ok (.if_icmp .le 7, 3) := by decide +kernel
theorem d_MO_against_70 : decode b_MO_against 70 = .ok (.iconst 3, 1) := by decide +kernel
theorem d_MO_against_71 : decode b_MO_against 71 = .ok (.goto 4, 3) := by decide +kernel
theorem d_MO_against_74 : decode b_MO_against 74 = .ok (.iconst 0, 1) := by decide +kernel
theorem d_MO_against_75 : decode b_MO_against 75 = .ok (.ireturn, 1) := by decide +kernel
theorem d_MO_isPerson_0 : decode b_MO_isPerson 0 = .ok (.iload_n 1, 1) := by decide +kernel
theorem d_MO_isPerson_1 : decode b_MO_isPerson 1 = .ok (.ifCond .lt 15, 3) := by decide +kernel
theorem d_MO_isPerson_4 : decode b_MO_isPerson 4 = .ok (.iload_n 1, 1) := by decide +kernel
theorem d_MO_isPerson_5 : decode b_MO_isPerson 5 = .ok (.aload_n 0, 1) := by decide +kernel
theorem d_MO_isPerson_6 : decode b_MO_isPerson 6 = .ok (.getfield 80, 3) := by decide +kernel
theorem d_MO_isPerson_9 : decode b_MO_isPerson 9 = .ok (.if_icmp .ge 7, 3) := by decide +kernel
theorem d_MO_isPerson_12 : decode b_MO_isPerson 12 = .ok (.iconst 1, 1) := by decide +kernel
theorem d_MO_isPerson_13 : decode b_MO_isPerson 13 = .ok (.goto 4, 3) := by decide +kernel
theorem d_MO_isPerson_16 : decode b_MO_isPerson 16 = .ok (.iconst 0, 1) := by decide +kernel
theorem d_MO_isPerson_17 : decode b_MO_isPerson 17 = .ok (.ireturn, 1) := by decide +kernel
theorem d_MO_isDay_0 : decode b_MO_isDay 0 = .ok (.iload_n 0, 1) := by decide +kernel
theorem d_MO_isDay_1 : decode b_MO_isDay 1 = .ok (.iconst 0, 1) := by decide +kernel
theorem d_MO_isDay_2 : decode b_MO_isDay 2 = .ok (.bipush 99, 2) := by decide +kernel
theorem d_MO_isDay_4 : decode b_MO_isDay 4 = .ok (.invokestatic 76, 3) := by decide +kernel
theorem d_MO_isDay_7 : decode b_MO_isDay 7 = .ok (.ireturn, 1) := by decide +kernel
theorem d_MO_post_0 : decode b_MO_post 0 = .ok (.aload_n 0, 1) := by decide +kernel
theorem d_MO_post_1 : decode b_MO_post 1 = .ok (.iconst 0, 1) := by decide +kernel
theorem d_MO_post_2 : decode b_MO_post 2 = .ok (.putfield 70, 3) := by decide +kernel
theorem d_MO_post_5 : decode b_MO_post 5 = .ok (.iload_n 1, 1) := by decide +kernel
theorem d_MO_post_6 : decode b_MO_post 6 = .ok (.invokestatic 83, 3) := by decide +kernel
theorem d_MO_post_9 : decode b_MO_post 9 = .ok (.ifCond .ne 5, 3) := by decide +kernel
theorem d_MO_post_12 : decode b_MO_post 12 = .ok (.iconst (-1), 1) := by decide +kernel
theorem d_MO_post_13 : decode b_MO_post 13 = .ok (.ireturn, 1) := by decide +kernel
theorem d_MO_post_14 : decode b_MO_post 14 = .ok (.iload_n 2, 1) := by decide +kernel
theorem d_MO_post_15 : decode b_MO_post 15 = .ok (.invokestatic 87, 3) := by decide +kernel
theorem d_MO_post_18 : decode b_MO_post 18 = .ok (.ifCond .ne 6, 3) := by decide +kernel
theorem d_MO_post_21 : decode b_MO_post 21 = .ok (.bipush (-2), 2) := by decide +kernel
theorem d_MO_post_23 : decode b_MO_post 23 = .ok (.ireturn, 1) := by decide +kernel
theorem d_MO_post_24 : decode b_MO_post 24 = .ok (.aload_n 0, 1) := by decide +kernel
theorem d_MO_post_25 : decode b_MO_post 25 = .ok (.iload_n 1, 1) := by decide +kernel
theorem d_MO_post_26 : decode b_MO_post 26 = .ok (.iload_n 2, 1) := by decide +kernel
theorem d_MO_post_27 : decode b_MO_post 27 = .ok (.iload_n 3, 1) := by decide +kernel
theorem d_MO_post_28 : decode b_MO_post 28 = .ok (.iload 4, 2) := by decide +kernel
theorem d_MO_post_30 : decode b_MO_post 30 = .ok (.invokevirtual 90, 3) := by decide +kernel
theorem d_MO_post_33 : decode b_MO_post 33 = .ok (.istore 5, 2) := by decide +kernel
theorem d_MO_post_35 : decode b_MO_post 35 = .ok (.iload 5, 2) := by decide +kernel
theorem d_MO_post_37 : decode b_MO_post 37 = .ok (.ifCond .eq 10, 3) := by decide +kernel
theorem d_MO_post_40 : decode b_MO_post 40 = .ok (.aload_n 0, 1) := by decide +kernel
theorem d_MO_post_41 : decode b_MO_post 41 = .ok (.iload 5, 2) := by decide +kernel
theorem d_MO_post_43 : decode b_MO_post 43 = .ok (.invokevirtual 94, 3) := by decide +kernel
theorem d_MO_post_46 : decode b_MO_post 46 = .ok (.ireturn, 1) := by decide +kernel
theorem d_MO_post_47 : decode b_MO_post 47 = .ok (.bipush 40, 2) := by decide +kernel
theorem d_MO_post_49 : decode b_MO_post 49 = .ok (.iload_n 1, 1) := by decide +kernel
theorem d_MO_post_50 : decode b_MO_post 50 = .ok (.imul, 1) := by decide +kernel
theorem d_MO_post_51 : decode b_MO_post 51 = .ok (.iload_n 3, 1) := by decide +kernel
theorem d_MO_post_52 : decode b_MO_post 52 = .ok (.iadd, 1) := by decide +kernel
theorem d_MO_post_53 : decode b_MO_post 53 = .ok (.istore 6, 2) := by decide +kernel
theorem d_MO_post_55 : decode b_MO_post 55 = .ok (.aload_n 0, 1) := by decide +kernel
theorem d_MO_post_56 : decode b_MO_post 56 = .ok (.iload 6, 2) := by decide +kernel
theorem d_MO_post_58 : decode b_MO_post 58 = .ok (.putfield 98, 3) := by decide +kernel
theorem d_MO_post_61 : decode b_MO_post 61 = .ok (.aload_n 0, 1) := by decide +kernel
theorem d_MO_post_62 : decode b_MO_post 62 = .ok (.iload 6, 2) := by decide +kernel
theorem d_MO_post_64 : decode b_MO_post 64 = .ok (.iload 4, 2) := by decide +kernel
theorem d_MO_post_66 : decode b_MO_post 66 = .ok (.iadd, 1) := by decide +kernel
theorem d_MO_post_67 : decode b_MO_post 67 = .ok (.invokevirtual 101, 3) := by decide +kernel
theorem d_MO_post_70 : decode b_MO_post 70 = .ok (.ifCond .ne 14, 3) := by decide +kernel
theorem d_MO_post_73 : decode b_MO_post 73 = .ok (.bipush (-100), 2) := by decide +kernel
theorem d_MO_post_75 : decode b_MO_post 75 = .ok (.aload_n 0, 1) := by decide +kernel
theorem d_MO_post_76 : decode b_MO_post 76 = .ok (.getfield 98, 3) := by decide +kernel
theorem d_MO_post_79 : decode b_MO_post 79 = .ok (.iload 6, 2) := by decide +kernel
theorem d_MO_post_81 : decode b_MO_post 81 = .ok (.isub, 1) := by decide +kernel
theorem d_MO_post_82 : decode b_MO_post 82 = .ok (.isub, 1) := by decide +kernel
theorem d_MO_post_83 : decode b_MO_post 83 = .ok (.ireturn, 1) := by decide +kernel
theorem d_MO_post_84 : decode b_MO_post 84 = .ok (.aload_n 0, 1) := by decide +kernel
theorem d_MO_post_85 : decode b_MO_post 85 = .ok (.aload_n 0, 1) := by decide +kernel
theorem d_MO_post_86 : decode b_MO_post 86 = .ok (.getfield 104, 3) := by decide +kernel
theorem d_MO_post_89 : decode b_MO_post 89 = .ok (.putfield 80, 3) := by decide +kernel
theorem d_MO_post_92 : decode b_MO_post 92 = .ok (.iconst 0, 1) := by decide +kernel
theorem d_MO_post_93 : decode b_MO_post 93 = .ok (.istore 7, 2) := by decide +kernel
theorem d_MO_post_95 : decode b_MO_post 95 = .ok (.iload 7, 2) := by decide +kernel
theorem d_MO_post_97 : decode b_MO_post 97 = .ok (.aload_n 0, 1) := by decide +kernel
theorem d_MO_post_98 : decode b_MO_post 98 = .ok (.getfield 80, 3) := by decide +kernel
theorem d_MO_post_101 : decode b_MO_post 101 = .ok (.if_icmp .ge 37, 3) := by decide +kernel
theorem d_MO_post_104 : decode b_MO_post 104 = .ok (.aload_n 0, 1) := by decide +kernel
theorem d_MO_post_105 : decode b_MO_post 105 = .ok (.getfield 19, 3) := by decide +kernel
theorem d_MO_post_108 : decode b_MO_post 108 = .ok (.iload 7, 2) := by decide +kernel
theorem d_MO_post_110 : decode b_MO_post 110 = .ok (.aload_n 0, 1) := by decide +kernel
theorem d_MO_post_111 : decode b_MO_post 111 = .ok (.getfield 25, 3) := by decide +kernel
theorem d_MO_post_114 : decode b_MO_post 114 = .ok (.iload 7, 2) := by decide +kernel
theorem d_MO_post_116 : decode b_MO_post 116 = .ok (.iaload, 1) := by decide +kernel
theorem d_MO_post_117 : decode b_MO_post 117 = .ok (.iastore, 1) := by decide +kernel
theorem d_MO_post_118 : decode b_MO_post 118 = .ok (.aload_n 0, 1) := by decide +kernel
theorem d_MO_post_119 : decode b_MO_post 119 = .ok (.getfield 22, 3) := by decide +kernel
theorem d_MO_post_122 : decode b_MO_post 122 = .ok (.iload 7, 2) := by decide +kernel
theorem d_MO_post_124 : decode b_MO_post 124 = .ok (.aload_n 0, 1) := by decide +kernel
theorem d_MO_post_125 : decode b_MO_post 125 = .ok (.getfield 28, 3) := by decide +kernel
theorem d_MO_post_128 : decode b_MO_post 128 = .ok (.iload 7, 2) := by decide +kernel
theorem d_MO_post_130 : decode b_MO_post 130 = .ok (.iaload, 1) := by decide +kernel
theorem d_MO_post_131 : decode b_MO_post 131 = .ok (.iastore, 1) := by decide +kernel
theorem d_MO_post_132 : decode b_MO_post 132 = .ok (.iinc 7 1, 3) := by decide +kernel
theorem d_MO_post_135 : decode b_MO_post 135 = .ok (.goto (-40), 3) := by decide +kernel
theorem d_MO_post_138 : decode b_MO_post 138 = .ok (.aload_n 0, 1) := by decide +kernel
theorem d_MO_post_139 : decode b_MO_post 139 = .ok (.iconst 0, 1) := by decide +kernel
theorem d_MO_post_140 : decode b_MO_post 140 = .ok (.putfield 107, 3) := by decide +kernel
theorem d_MO_post_143 : decode b_MO_post 143 = .ok (.aload_n 0, 1) := by decide +kernel
theorem d_MO_post_144 : decode b_MO_post 144 = .ok (.iconst 0, 1) := by decide +kernel
theorem d_MO_post_145 : decode b_MO_post 145 = .ok (.putfield 110, 3) := by decide +kernel
theorem d_MO_post_148 : decode b_MO_post 148 = .ok (.aload_n 0, 1) := by decide +kernel
theorem d_MO_post_149 : decode b_MO_post 149 = .ok (.getfield 80, 3) := by decide +kernel
theorem d_MO_post_152 : decode b_MO_post 152 = .ok (.ireturn, 1) := by decide +kernel
theorem d_MO_readPost_0 : decode b_MO_readPost 0 = .ok (.aload_n 0, 1) := by decide +kernel
theorem d_MO_readPost_1 : decode b_MO_readPost 1 = .ok (.getfield 98, 3) := by decide +kernel
theorem d_MO_readPost_4 : decode b_MO_readPost 4 = .ok (.iload_n 1, 1) := by decide +kernel
theorem d_MO_readPost_5 : decode b_MO_readPost 5 = .ok (.if_icmp .ge 17, 3) := by decide +kernel
theorem d_MO_readPost_8 : decode b_MO_readPost 8 = .ok (.aload_n 0, 1) := by decide +kernel
theorem d_MO_readPost_9 : decode b_MO_readPost 9 = .ok (.getfield 16, 3) := by decide +kernel
theorem d_MO_readPost_12 : decode b_MO_readPost 12 = .ok (.aload_n 0, 1) := by decide +kernel
theorem d_MO_readPost_13 : decode b_MO_readPost 13 = .ok (.getfield 98, 3) := by decide +kernel
theorem d_MO_readPost_16 : decode b_MO_readPost 16 = .ok (.iaload, 1) := by decide +kernel
theorem d_MO_readPost_17 : decode b_MO_readPost 17 = .ok (.bipush 112, 2) := by decide +kernel
theorem d_MO_readPost_19 : decode b_MO_readPost 19 = .ok (.if_icmp .eq 5, 3) := by decide +kernel
theorem d_MO_readPost_22 : decode b_MO_readPost 22 = .ok (.iconst 0, 1) := by decide +kernel
theorem d_MO_readPost_23 : decode b_MO_readPost 23 = .ok (.ireturn, 1) := by decide +kernel
theorem d_MO_readPost_24 : decode b_MO_readPost 24 = .ok (.aload_n 0, 1) := by decide +kernel
theorem d_MO_readPost_25 : decode b_MO_readPost 25 = .ok (.dup, 1) := by decide +kernel
theorem d_MO_readPost_26 : decode b_MO_readPost 26 = .ok (.getfield 98, 3) := by decide +kernel
theorem d_MO_readPost_29 : decode b_MO_readPost 29 = .ok (.iconst 1, 1) := by decide +kernel
theorem d_MO_readPost_30 : decode b_MO_readPost 30 = .ok (.iadd, 1) := by decide +kernel
theorem d_MO_readPost_31 : decode b_MO_readPost 31 = .ok (.putfield 98, 3) := by decide +kernel
theorem d_MO_readPost_34 : decode b_MO_readPost 34 = .ok (.aload_n 0, 1) := by decide +kernel
theorem d_MO_readPost_35 : decode b_MO_readPost 35 = .ok (.iconst 0, 1) := by decide +kernel
theorem d_MO_readPost_36 : decode b_MO_readPost 36 = .ok (.putfield 104, 3) := by decide +kernel
theorem d_MO_readPost_39 : decode b_MO_readPost 39 = .ok (.aload_n 0, 1) := by decide +kernel
theorem d_MO_readPost_40 : decode b_MO_readPost 40 = .ok (.getfield 104, 3) := by decide +kernel
theorem d_MO_readPost_43 : decode b_MO_readPost 43 = .ok (.iconst 2, 1) := by decide +kernel
theorem d_MO_readPost_44 : decode b_MO_readPost 44 = .ok (.if_icmp .lt 11, 3) := by decide +kernel
theorem d_MO_readPost_47 : decode b_MO_readPost 47 = .ok (.aload_n 0, 1) := by decide +kernel
theorem d_MO_readPost_48 : decode b_MO_readPost 48 = .ok (.getfield 98, 3) := by decide +kernel
theorem d_MO_readPost_51 : decode b_MO_readPost 51 = .ok (.iload_n 1, 1) := by decide +kernel
theorem d_MO_readPost_52 : decode b_MO_readPost 52 = .ok (.if_icmp .ge 35, 3) := by decide +kernel
theorem d_MO_readPost_55 : decode b_MO_readPost 55 = .ok (.aload_n 0, 1) := by decide +kernel
theorem d_MO_readPost_56 : decode b_MO_readPost 56 = .ok (.getfield 104, 3) := by decide +kernel
theorem d_MO_readPost_59 : decode b_MO_readPost 59 = .ok (.bipush 6, 2) := by decide +kernel
theorem d_MO_readPost_61 : decode b_MO_readPost 61 = .ok (.if_icmp .eq 11, 3) := by decide +kernel
theorem d_MO_readPost_64 : decode b_MO_readPost 64 = .ok (.aload_n 0, 1) := by decide +kernel
theorem d_MO_readPost_65 : decode b_MO_readPost 65 = .ok (.iload_n 1, 1) := by decide +kernel
theorem d_MO_readPost_66 : decode b_MO_readPost 66 = .ok (.invokevirtual 113, 3) := by decide +kernel
theorem d_MO_readPost_69 : decode b_MO_readPost 69 = .ok (.ifCond .ne 5, 3) := by decide +kernel
theorem d_MO_readPost_72 : decode b_MO_readPost 72 = .ok (.iconst 0, 1) := by decide +kernel
theorem d_MO_readPost_73 : decode b_MO_readPost 73 = .ok (.ireturn, 1) := by decide +kernel
theorem d_MO_readPost_74 : decode b_MO_readPost 74 = .ok (.aload_n 0, 1) := by decide +kernel
theorem d_MO_readPost_75 : decode b_MO_readPost 75 = .ok (.dup, 1) := by decide +kernel
theorem d_MO_readPost_76 : decode b_MO_readPost 76 = .ok (.getfield 104, 3) := by decide +kernel
theorem d_MO_readPost_79 : decode b_MO_readPost 79 = .ok (.iconst 1, 1) := by decide +kernel
theorem d_MO_readPost_80 : decode b_MO_readPost 80 = .ok (.iadd, 1) := by decide +kernel
theorem d_MO_readPost_81 : decode b_MO_readPost 81 = .ok (.putfield 104, 3) := by decide +kernel
theorem d_MO_readPost_84 : decode b_MO_readPost 84 = .ok (.goto (-45), 3) := by decide +kernel
theorem d_MO_readPost_87 : decode b_MO_readPost 87 = .ok (.iconst 1, 1) := by decide +kernel
theorem d_MO_readPost_88 : decode b_MO_readPost 88 = .ok (.ireturn, 1) := by decide +kernel
theorem d_MO_readPerson_0 : decode b_MO_readPerson 0 = .ok (.aload_n 0, 1) := by decide +kernel
theorem d_MO_readPerson_1 : decode b_MO_readPerson 1 = .ok (.getfield 98, 3) := by decide +kernel
theorem d_MO_readPerson_4 : decode b_MO_readPerson 4 = .ok (.iload_n 1, 1) := by decide +kernel
theorem d_MO_readPerson_5 : decode b_MO_readPerson 5 = .ok (.if_icmp .ge 15, 3) := by decide +kernel
theorem d_MO_readPerson_8 : decode b_MO_readPerson 8 = .ok (.aload_n 0, 1) := by decide +kernel
theorem d_MO_readPerson_9 : decode b_MO_readPerson 9 = .ok (.getfield 16, 3) := by decide +kernel
theorem d_MO_readPerson_12 : decode b_MO_readPerson 12 = .ok (.aload_n 0, 1) := by decide +kernel
theorem d_MO_readPerson_13 : decode b_MO_readPerson 13 = .ok (.getfield 98, 3) := by decide +kernel
theorem d_MO_readPerson_16 : decode b_MO_readPerson 16 = .ok (.iaload, 1) := by decide +kernel
theorem d_MO_readPerson_17 : decode b_MO_readPerson 17 = .ok (.goto 4, 3) := by decide +kernel
theorem d_MO_readPerson_20 : decode b_MO_readPerson 20 = .ok (.iconst 0, 1) := by decide +kernel
theorem d_MO_readPerson_21 : decode b_MO_readPerson 21 = .ok (.istore_n 2, 1) := by decide +kernel
theorem d_MO_readPerson_22 : decode b_MO_readPerson 22 = .ok (.aload_n 0, 1) := by decide +kernel
theorem d_MO_readPerson_23 : decode b_MO_readPerson 23 = .ok (.getfield 25, 3) := by decide +kernel
theorem d_MO_readPerson_26 : decode b_MO_readPerson 26 = .ok (.aload_n 0, 1) := by decide +kernel
theorem d_MO_readPerson_27 : decode b_MO_readPerson 27 = .ok (.getfield 104, 3) := by decide +kernel
theorem d_MO_readPerson_30 : decode b_MO_readPerson 30 = .ok (.iload_n 2, 1) := by decide +kernel
theorem d_MO_readPerson_31 : decode b_MO_readPerson 31 = .ok (.bipush 119, 2) := by decide +kernel
theorem d_MO_readPerson_33 : decode b_MO_readPerson 33 = .ok (.if_icmp .ne 7, 3) := by decide +kernel
theorem d_MO_readPerson_36 : decode b_MO_readPerson 36 = .ok (.iconst 0, 1) := by decide +kernel
theorem d_MO_readPerson_37 : decode b_MO_readPerson 37 = .ok (.goto 25, 3) := by decide +kernel
theorem d_MO_readPerson_40 : decode b_MO_readPerson 40 = .ok (.iload_n 2, 1) := by decide +kernel
theorem d_MO_readPerson_41 : decode b_MO_readPerson 41 = .ok (.bipush 109, 2) := by decide +kernel
theorem d_MO_readPerson_43 : decode b_MO_readPerson 43 = .ok (.if_icmp .ne 7, 3) := by decide +kernel
theorem d_MO_readPerson_46 : decode b_MO_readPerson 46 = .ok (.iconst 1, 1) := by decide +kernel
theorem d_MO_readPerson_47 : decode b_MO_readPerson 47 = .ok (.goto 15, 3) := by decide +kernel
theorem d_MO_readPerson_50 : decode b_MO_readPerson 50 = .ok (.iload_n 2, 1) := by decide +kernel
theorem d_MO_readPerson_51 : decode b_MO_readPerson 51 = .ok (.bipush 108, 2) := by decide +kernel
theorem d_MO_readPerson_53 : decode b_MO_readPerson 53 = .ok (.if_icmp .ne 7, 3) := by decide +kernel
theorem d_MO_readPerson_56 : decode b_MO_readPerson 56 = .ok (.iconst 2, 1) := by decide +kernel
theorem d_MO_readPerson_57 : decode b_MO_readPerson 57 = .ok (.goto 5, 3) := by decide +kernel
theorem d_MO_readPerson_60 : decode b_MO_readPerson 60 = .ok (.bipush (-9), 2) := by decide +kernel
theorem d_MO_readPerson_62 : decode b_MO_readPerson 62 = .ok (.iastore, 1) := by decide +kernel
theorem d_MO_readPerson_63 : decode b_MO_readPerson 63 = .ok (.aload_n 0, 1) := by decide +kernel
theorem d_MO_readPerson_64 : decode b_MO_readPerson 64 = .ok (.getfield 25, 3) := by decide +kernel
theorem d_MO_readPerson_67 : decode b_MO_readPerson 67 = .ok (.aload_n 0, 1) := by decide +kernel
theorem d_MO_readPerson_68 : decode b_MO_readPerson 68 = .ok (.getfield 104, 3) := by decide +kernel
theorem d_MO_readPerson_71 : decode b_MO_readPerson 71 = .ok (.iaload, 1) := by decide +kernel
theorem d_MO_readPerson_72 : decode b_MO_readPerson 72 = .ok (.bipush (-9), 2) := by decide +kernel
theorem d_MO_readPerson_74 : decode b_MO_readPerson 74 = .ok (.if_icmp .ne 5, 3) := by decide +kernel
theorem d_MO_readPerson_77 : decode b_MO_readPerson 77 = .ok (.iconst 0, 1) := by decide +kernel
theorem d_MO_readPerson_78 : decode b_MO_readPerson 78 = .ok (.ireturn, 1) := by decide +kernel
theorem d_MO_readPerson_79 : decode b_MO_readPerson 79 = .ok (.aload_n 0, 1) := by decide +kernel
theorem d_MO_readPerson_80 : decode b_MO_readPerson 80 = .ok (.dup, 1) := by decide +kernel
theorem d_MO_readPerson_81 : decode b_MO_readPerson 81 = .ok (.getfield 98, 3) := by decide +kernel
theorem d_MO_readPerson_84 : decode b_MO_readPerson 84 = .ok (.iconst 1, 1) := by decide +kernel
theorem d_MO_readPerson_85 : decode b_MO_readPerson 85 = .ok (.iadd, 1) := by decide +kernel
theorem d_MO_readPerson_86 : decode b_MO_readPerson 86 = .ok (.putfield 98, 3) := by decide +kernel
theorem d_MO_readPerson_89 : decode b_MO_readPerson 89 = .ok (.aload_n 0, 1) := by decide +kernel
theorem d_MO_readPerson_90 : decode b_MO_readPerson 90 = .ok (.getfield 98, 3) := by decide +kernel
theorem d_MO_readPerson_93 : decode b_MO_readPerson 93 = .ok (.iload_n 1, 1) := by decide +kernel
theorem d_MO_readPerson_94 : decode b_MO_readPerson 94 = .ok (.if_icmp .ge 22, 3) := by decide +kernel
theorem d_MO_readPerson_97 : decode b_MO_readPerson 97 = .ok (.aload_n 0, 1) := by decide +kernel
theorem d_MO_readPerson_98 : decode b_MO_readPerson 98 = .ok (.getfield 16, 3) := by decide +kernel
theorem d_MO_readPerson_101 : decode b_MO_readPerson 101 = .ok (.aload_n 0, 1) := by decide +kernel
theorem d_MO_readPerson_102 : decode b_MO_readPerson 102 = .ok (.getfield 98, 3) := by decide +kernel
theorem d_MO_readPerson_105 : decode b_MO_readPerson 105 = .ok (.iaload, 1) := by decide +kernel
theorem d_MO_readPerson_106 : decode b_MO_readPerson 106 = .ok (.bipush 48, 2) := by decide +kernel
theorem d_MO_readPerson_108 : decode b_MO_readPerson 108 = .ok (.bipush 52, 2) := by decide +kernel
theorem d_MO_readPerson_110 : decode b_MO_readPerson 110 = .ok (.invokestatic 76, 3) := by decide +kernel
theorem d_MO_readPerson_113 : decode b_MO_readPerson 113 = .ok (.ifCond .ne 5, 3) := by decide +kernel
theorem d_MO_readPerson_116 : decode b_MO_readPerson 116 = .ok (.iconst 0, 1) := by decide +kernel
theorem d_MO_readPerson_117 : decode b_MO_readPerson 117 = .ok (.ireturn, 1) := by decide +kernel
theorem d_MO_readPerson_118 : decode b_MO_readPerson 118 = .ok (.aload_n 0, 1) := by decide +kernel
theorem d_MO_readPerson_119 : decode b_MO_readPerson 119 = .ok (.getfield 16, 3) := by decide +kernel
theorem d_MO_readPerson_122 : decode b_MO_readPerson 122 = .ok (.aload_n 0, 1) := by decide +kernel
theorem d_MO_readPerson_123 : decode b_MO_readPerson 123 = .ok (.getfield 98, 3) := by decide +kernel
theorem d_MO_readPerson_126 : decode b_MO_readPerson 126 = .ok (.iaload, 1) := by decide +kernel
theorem d_MO_readPerson_127 : decode b_MO_readPerson 127 = .ok (.bipush 48, 2) := by decide +kernel
theorem d_MO_readPerson_129 : decode b_MO_readPerson 129 = .ok (.isub, 1) := by decide +kernel
theorem d_MO_readPerson_130 : decode b_MO_readPerson 130 = .ok (.istore_n 3, 1) := by decide +kernel
theorem d_MO_readPerson_131 : decode b_MO_readPerson 131 = .ok (.aload_n 0, 1) := by decide +kernel
theorem d_MO_readPerson_132 : decode b_MO_readPerson 132 = .ok (.dup, 1) := by decide +kernel
theorem d_MO_readPerson_133 : decode b_MO_readPerson 133 = .ok (.getfield 98, 3) := by decide +kernel
theorem d_MO_readPerson_136 : decode b_MO_readPerson 136 = .ok (.iconst 1, 1) := by decide +kernel
theorem d_MO_readPerson_137 : decode b_MO_readPerson 137 = .ok (.iadd, 1) := by decide +kernel
theorem d_MO_readPerson_138 : decode b_MO_readPerson 138 = .ok (.putfield 98, 3) := by decide +kernel
theorem d_MO_readPerson_141 : decode b_MO_readPerson 141 = .ok (.aload_n 0, 1) := by decide +kernel
theorem d_MO_readPerson_142 : decode b_MO_readPerson 142 = .ok (.getfield 98, 3) := by decide +kernel
theorem d_MO_readPerson_145 : decode b_MO_readPerson 145 = .ok (.iload_n 1, 1) := by decide +kernel
theorem d_MO_readPerson_146 : decode b_MO_readPerson 146 = .ok (.if_icmp .ge 22, 3) := by decide +kernel
theorem d_MO_readPerson_149 : decode b_MO_readPerson 149 = .ok (.aload_n 0, 1) := by decide +kernel
theorem d_MO_readPerson_150 : decode b_MO_readPerson 150 = .ok (.getfield 16, 3) := by decide +kernel
theorem d_MO_readPerson_153 : decode b_MO_readPerson 153 = .ok (.aload_n 0, 1) := by decide +kernel
theorem d_MO_readPerson_154 : decode b_MO_readPerson 154 = .ok (.getfield 98, 3) := by decide +kernel
theorem d_MO_readPerson_157 : decode b_MO_readPerson 157 = .ok (.iaload, 1) := by decide +kernel
theorem d_MO_readPerson_158 : decode b_MO_readPerson 158 = .ok (.bipush 48, 2) := by decide +kernel
theorem d_MO_readPerson_160 : decode b_MO_readPerson 160 = .ok (.bipush 57, 2) := by decide +kernel
theorem d_MO_readPerson_162 : decode b_MO_readPerson 162 = .ok (.invokestatic 76, 3) := by decide +kernel
theorem d_MO_readPerson_165 : decode b_MO_readPerson 165 = .ok (.ifCond .ne 5, 3) := by decide +kernel
theorem d_MO_readPerson_168 : decode b_MO_readPerson 168 = .ok (.iconst 0, 1) := by decide +kernel
theorem d_MO_readPerson_169 : decode b_MO_readPerson 169 = .ok (.ireturn, 1) := by decide +kernel
theorem d_MO_readPerson_170 : decode b_MO_readPerson 170 = .ok (.aload_n 0, 1) := by decide +kernel
theorem d_MO_readPerson_171 : decode b_MO_readPerson 171 = .ok (.getfield 28, 3) := by decide +kernel
theorem d_MO_readPerson_174 : decode b_MO_readPerson 174 = .ok (.aload_n 0, 1) := by decide +kernel
theorem d_MO_readPerson_175 : decode b_MO_readPerson 175 = .ok (.getfield 104, 3) := by decide +kernel
theorem d_MO_readPerson_178 : decode b_MO_readPerson 178 = .ok (.bipush 10, 2) := by decide +kernel
theorem d_MO_readPerson_180 : decode b_MO_readPerson 180 = .ok (.iload_n 3, 1) := by decide +kernel
theorem d_MO_readPerson_181 : decode b_MO_readPerson 181 = .ok (.imul, 1) := by decide +kernel
theorem d_MO_readPerson_182 : decode b_MO_readPerson 182 = .ok (.aload_n 0, 1) := by decide +kernel
theorem d_MO_readPerson_183 : decode b_MO_readPerson 183 = .ok (.getfield 16, 3) := by decide +kernel
theorem d_MO_readPerson_186 : decode b_MO_readPerson 186 = .ok (.aload_n 0, 1) := by decide +kernel
theorem d_MO_readPerson_187 : decode b_MO_readPerson 187 = .ok (.getfield 98, 3) := by decide +kernel
theorem d_MO_readPerson_190 : decode b_MO_readPerson 190 = .ok (.iaload, 1) := by decide +kernel
theorem d_MO_readPerson_191 : decode b_MO_readPerson 191 = .ok (.iadd, 1) := by decide +kernel
theorem d_MO_readPerson_192 : decode b_MO_readPerson 192 = .ok (.bipush 48, 2) := by decide +kernel
theorem d_MO_readPerson_194 : decode b_MO_readPerson 194 = .ok (.isub, 1) := by decide +kernel
theorem d_MO_readPerson_195 : decode b_MO_readPerson 195 = .ok (.iastore, 1) := by decide +kernel
theorem d_MO_readPerson_196 : decode b_MO_readPerson 196 = .ok (.aload_n 0, 1) := by decide +kernel
theorem d_MO_readPerson_197 : decode b_MO_readPerson 197 = .ok (.getfield 28, 3) := by decide +kernel
theorem d_MO_readPerson_200 : decode b_MO_readPerson 200 = .ok (.aload_n 0, 1) := by decide +kernel
theorem d_MO_readPerson_201 : decode b_MO_readPerson 201 = .ok (.getfield 104, 3) := by decide +kernel
theorem d_MO_readPerson_204 : decode b_MO_readPerson 204 = .ok (.iaload, 1) := by decide +kernel
theorem d_MO_readPerson_205 : decode b_MO_readPerson 205 = .ok (.iconst 1, 1) := by decide +kernel
theorem d_MO_readPerson_206 : decode b_MO_readPerson 206 = .ok (.bipush 40, 2) := by decide +kernel
theorem d_MO_readPerson_208 : decode b_MO_readPerson 208 = .ok (.invokestatic 76, 3) := by decide +kernel
theorem d_MO_readPerson_211 : decode b_MO_readPerson 211 = .ok (.ifCond .ne 5, 3) := by decide +kernel
theorem d_MO_readPerson_214 : decode b_MO_readPerson 214 = .ok (.iconst 0, 1) := by decide +kernel
theorem d_MO_readPerson_215 : decode b_MO_readPerson 215 = .ok (.ireturn, 1) := by decide +kernel
theorem d_MO_readPerson_216 : decode b_MO_readPerson 216 = .ok (.aload_n 0, 1) := by decide +kernel
theorem d_MO_readPerson_217 : decode b_MO_readPerson 217 = .ok (.dup, 1) := by decide +kernel
theorem d_MO_readPerson_218 : decode b_MO_readPerson 218 = .ok (.getfield 98, 3) := by decide +kernel
theorem d_MO_readPerson_221 : decode b_MO_readPerson 221 = .ok (.iconst 1, 1) := by decide +kernel
theorem d_MO_readPerson_222 : decode b_MO_readPerson 222 = .ok (.iadd, 1) := by decide +kernel
theorem d_MO_readPerson_223 : decode b_MO_readPerson 223 = .ok (.putfield 98, 3) := by decide +kernel
theorem d_MO_readPerson_226 : decode b_MO_readPerson 226 = .ok (.iconst 1, 1) := by decide +kernel
theorem d_MO_readPerson_227 : decode b_MO_readPerson 227 = .ok (.ireturn, 1) := by decide +kernel
theorem d_MO_ofPerson_0 : decode b_MO_ofPerson 0 = .ok (.aload_n 0, 1) := by decide +kernel
theorem d_MO_ofPerson_1 : decode b_MO_ofPerson 1 = .ok (.iload_n 1, 1) := by decide +kernel
theorem d_MO_ofPerson_2 : decode b_MO_ofPerson 2 = .ok (.invokevirtual 116, 3) := by decide +kernel
theorem d_MO_ofPerson_5 : decode b_MO_ofPerson 5 = .ok (.ifCond .ne 5, 3) := by decide +kernel
theorem d_MO_ofPerson_8 : decode b_MO_ofPerson 8 = .ok (.iconst (-1), 1) := by decide +kernel
theorem d_MO_ofPerson_9 : decode b_MO_ofPerson 9 = .ok (.ireturn, 1) := by decide +kernel
theorem d_MO_ofPerson_10 : decode b_MO_ofPerson 10 = .ok (.iload_n 2, 1) := by decide +kernel
theorem d_MO_ofPerson_11 : decode b_MO_ofPerson 11 = .ok (.ifCond .ne 12, 3) := by decide +kernel
theorem d_MO_ofPerson_14 : decode b_MO_ofPerson 14 = .ok (.aload_n 0, 1) := by decide +kernel
theorem d_MO_ofPerson_15 : decode b_MO_ofPerson 15 = .ok (.getfield 19, 3) := by decide +kernel
theorem d_MO_ofPerson_18 : decode b_MO_ofPerson 18 = .ok (.iload_n 1, 1) := by decide +kernel
theorem d_MO_ofPerson_19 : decode b_MO_ofPerson 19 = .ok (.iaload, 1) := by decide +kernel
theorem d_MO_ofPerson_20 : decode b_MO_ofPerson 20 = .ok (.goto 19, 3) := by decide +kernel
theorem d_MO_ofPerson_23 : decode b_MO_ofPerson 23 = .ok (.iload_n 2, 1) := by decide +kernel
theorem d_MO_ofPerson_24 : decode b_MO_ofPerson 24 = .ok (.iconst 1, 1) := by decide +kernel
theorem d_MO_ofPerson_25 : decode b_MO_ofPerson 25 = .ok (.if_icmp .ne 12, 3) := by decide +kernel
theorem d_MO_ofPerson_28 : decode b_MO_ofPerson 28 = .ok (.aload_n 0, 1) := by decide +kernel
theorem d_MO_ofPerson_29 : decode b_MO_ofPerson 29 = .ok (.getfield 22, 3) := by decide +kernel
theorem d_MO_ofPerson_32 : decode b_MO_ofPerson 32 = .ok (.iload_n 1, 1) := by decide +kernel
theorem d_MO_ofPerson_33 : decode b_MO_ofPerson 33 = .ok (.iaload, 1) := by decide +kernel
theorem d_MO_ofPerson_34 : decode b_MO_ofPerson 34 = .ok (.goto 5, 3) := by decide +kernel
theorem d_MO_ofPerson_37 : decode b_MO_ofPerson 37 = .ok (.bipush (-2), 2) := by decide +kernel
theorem d_MO_ofPerson_39 : decode b_MO_ofPerson 39 = .ok (.ireturn, 1) := by decide +kernel
theorem d_MO_shows_0 : decode b_MO_shows 0 = .ok (.aload_n 0, 1) := by decide +kernel
theorem d_MO_shows_1 : decode b_MO_shows 1 = .ok (.getfield 19, 3) := by decide +kernel
theorem d_MO_shows_4 : decode b_MO_shows 4 = .ok (.iload_n 1, 1) := by decide +kernel
theorem d_MO_shows_5 : decode b_MO_shows 5 = .ok (.iaload, 1) := by decide +kernel
theorem d_MO_shows_6 : decode b_MO_shows 6 = .ok (.ifCond .ne 7, 3) := by decide +kernel
theorem d_MO_shows_9 : decode b_MO_shows 9 = .ok (.iload_n 2, 1) := by decide +kernel
theorem d_MO_shows_10 : decode b_MO_shows 10 = .ok (.goto 6, 3) := by decide +kernel
theorem d_MO_shows_13 : decode b_MO_shows 13 = .ok (.iload_n 2, 1) := by decide +kernel
theorem d_MO_shows_14 : decode b_MO_shows 14 = .ok (.iconst 3, 1) := by decide +kernel
theorem d_MO_shows_15 : decode b_MO_shows 15 = .ok (.iadd, 1) := by decide +kernel
theorem d_MO_shows_16 : decode b_MO_shows 16 = .ok (.istore_n 3, 1) := by decide +kernel
theorem d_MO_shows_17 : decode b_MO_shows 17 = .ok (.aload_n 0, 1) := by decide +kernel
theorem d_MO_shows_18 : decode b_MO_shows 18 = .ok (.getfield 19, 3) := by decide +kernel
theorem d_MO_shows_21 : decode b_MO_shows 21 = .ok (.iload_n 1, 1) := by decide +kernel
theorem d_MO_shows_22 : decode b_MO_shows 22 = .ok (.iaload, 1) := by decide +kernel
theorem d_MO_shows_23 : decode b_MO_shows 23 = .ok (.iconst 2, 1) := by decide +kernel
theorem d_MO_shows_24 : decode b_MO_shows 24 = .ok (.if_icmp .ne 11, 3) := by decide +kernel
theorem d_MO_shows_27 : decode b_MO_shows 27 = .ok (.iload_n 3, 1) := by decide +kernel
theorem d_MO_shows_28 : decode b_MO_shows 28 = .ok (.iload_n 2, 1) := by decide +kernel
theorem d_MO_shows_29 : decode b_MO_shows 29 = .ok (.iconst 2, 1) := by decide +kernel
theorem d_MO_shows_30 : decode b_MO_shows 30 = .ok (.idiv, 1) := by decide +kernel
theorem d_MO_shows_31 : decode b_MO_shows 31 = .ok (.iadd, 1) := by decide +kernel
theorem d_MO_shows_32 : decode b_MO_shows 32 = .ok (.goto 4, 3) := by decide +kernel
theorem d_MO_shows_35 : decode b_MO_shows 35 = .ok (.iload_n 3, 1) := by decide +kernel
theorem d_MO_shows_36 : decode b_MO_shows 36 = .ok (.ireturn, 1) := by decide +kernel
theorem d_MO_scale_0 : decode b_MO_scale 0 = .ok (.aload_n 0, 1) := by decide +kernel
theorem d_MO_scale_1 : decode b_MO_scale 1 = .ok (.iload_n 1, 1) := by decide +kernel
theorem d_MO_scale_2 : decode b_MO_scale 2 = .ok (.invokevirtual 116, 3) := by decide +kernel
theorem d_MO_scale_5 : decode b_MO_scale 5 = .ok (.ifCond .ne 5, 3) := by decide +kernel
theorem d_MO_scale_8 : decode b_MO_scale 8 = .ok (.iconst (-1), 1) := by decide +kernel
theorem d_MO_scale_9 : decode b_MO_scale 9 = .ok (.ireturn, 1) := by decide +kernel
theorem d_MO_scale_10 : decode b_MO_scale 10 = .ok (.iload_n 2, 1) := by decide +kernel
theorem d_MO_scale_11 : decode b_MO_scale 11 = .ok (.iconst 1, 1) := by decide +kernel
theorem d_MO_scale_12 : decode b_MO_scale 12 = .ok (.bipush 99, 2) := by decide +kernel
theorem d_MO_scale_14 : decode b_MO_scale 14 = .ok (.invokestatic 76, 3) := by decide +kernel
theorem d_MO_scale_17 : decode b_MO_scale 17 = .ok (.ifCond .eq 12, 3) := by decide +kernel
theorem d_MO_scale_20 : decode b_MO_scale 20 = .ok (.aload_n 0, 1) := by decide +kernel
theorem d_MO_scale_21 : decode b_MO_scale 21 = .ok (.iload_n 1, 1) := by decide +kernel
theorem d_MO_scale_22 : decode b_MO_scale 22 = .ok (.iload_n 2, 1) := by decide +kernel
theorem d_MO_scale_23 : decode b_MO_scale 23 = .ok (.invokevirtual 119, 3) := by decide +kernel
theorem d_MO_scale_26 : decode b_MO_scale 26 = .ok (.goto 5, 3) := by decide +kernel
theorem d_MO_scale_29 : decode b_MO_scale 29 = .ok (.bipush (-2), 2) := by decide +kernel
theorem d_MO_scale_31 : decode b_MO_scale 31 = .ok (.ireturn, 1) := by decide +kernel
theorem d_MO_law_0 : decode b_MO_law 0 = .ok (.iload_n 1, 1) := by decide +kernel
theorem d_MO_law_1 : decode b_MO_law 1 = .ok (.iconst 0, 1) := by decide +kernel
theorem d_MO_law_2 : decode b_MO_law 2 = .ok (.iconst 2, 1) := by decide +kernel
theorem d_MO_law_3 : decode b_MO_law 3 = .ok (.invokestatic 76, 3) := by decide +kernel
theorem d_MO_law_6 : decode b_MO_law 6 = .ok (.ifCond .ne 6, 3) := by decide +kernel
theorem d_MO_law_9 : decode b_MO_law 9 = .ok (.bipush (-2), 2) := by decide +kernel
theorem d_MO_law_11 : decode b_MO_law 11 = .ok (.ireturn, 1) := by decide +kernel
theorem d_MO_law_12 : decode b_MO_law 12 = .ok (.aload_n 0, 1) := by decide +kernel
theorem d_MO_law_13 : decode b_MO_law 13 = .ok (.getfield 80, 3) := by decide +kernel
theorem d_MO_law_16 : decode b_MO_law 16 = .ok (.ifCond .ne 6, 3) := by decide +kernel
theorem d_MO_law_19 : decode b_MO_law 19 = .ok (.bipush (-3), 2) := by decide +kernel
theorem d_MO_law_21 : decode b_MO_law 21 = .ok (.ireturn, 1) := by decide +kernel
theorem d_MO_law_22 : decode b_MO_law 22 = .ok (.aload_n 0, 1) := by decide +kernel
theorem d_MO_law_23 : decode b_MO_law 23 = .ok (.getfield 107, 3) := by decide +kernel
theorem d_MO_law_26 : decode b_MO_law 26 = .ok (.istore_n 2, 1) := by decide +kernel
theorem d_MO_law_27 : decode b_MO_law 27 = .ok (.aload_n 0, 1) := by decide +kernel
theorem d_MO_law_28 : decode b_MO_law 28 = .ok (.iload_n 1, 1) := by decide +kernel
theorem d_MO_law_29 : decode b_MO_law 29 = .ok (.putfield 107, 3) := by decide +kernel
theorem d_MO_law_32 : decode b_MO_law 32 = .ok (.iload_n 2, 1) := by decide +kernel
theorem d_MO_law_33 : decode b_MO_law 33 = .ok (.ireturn, 1) := by decide +kernel
theorem d_MO_pays_0 : decode b_MO_pays 0 = .ok (.iload_n 1, 1) := by decide +kernel
theorem d_MO_pays_1 : decode b_MO_pays 1 = .ok (.iload_n 2, 1) := by decide +kernel
theorem d_MO_pays_2 : decode b_MO_pays 2 = .ok (.if_icmp .eq 11, 3) := by decide +kernel
theorem d_MO_pays_5 : decode b_MO_pays 5 = .ok (.aload_n 0, 1) := by decide +kernel
theorem d_MO_pays_6 : decode b_MO_pays 6 = .ok (.getfield 107, 3) := by decide +kernel
theorem d_MO_pays_9 : decode b_MO_pays 9 = .ok (.iconst 2, 1) := by decide +kernel
theorem d_MO_pays_10 : decode b_MO_pays 10 = .ok (.if_icmp .ne 5, 3) := by decide +kernel
theorem d_MO_pays_13 : decode b_MO_pays 13 = .ok (.iload_n 1, 1) := by decide +kernel
theorem d_MO_pays_14 : decode b_MO_pays 14 = .ok (.ireturn, 1) := by decide +kernel
theorem d_MO_pays_15 : decode b_MO_pays 15 = .ok (.iload_n 1, 1) := by decide +kernel
theorem d_MO_pays_16 : decode b_MO_pays 16 = .ok (.iload_n 2, 1) := by decide +kernel
theorem d_MO_pays_17 : decode b_MO_pays 17 = .ok (.if_icmp .ge 7, 3) := by decide +kernel
theorem d_MO_pays_20 : decode b_MO_pays 20 = .ok (.iconst 1, 1) := by decide +kernel
theorem d_MO_pays_21 : decode b_MO_pays 21 = .ok (.goto 4, 3) := by decide +kernel
theorem d_MO_pays_24 : decode b_MO_pays 24 = .ok (.iconst 0, 1) := by decide +kernel
theorem d_MO_pays_25 : decode b_MO_pays 25 = .ok (.istore_n 3, 1) := by decide +kernel
theorem d_MO_pays_26 : decode b_MO_pays 26 = .ok (.iload_n 3, 1) := by decide +kernel
theorem d_MO_pays_27 : decode b_MO_pays 27 = .ok (.aload_n 0, 1) := by decide +kernel
theorem d_MO_pays_28 : decode b_MO_pays 28 = .ok (.getfield 107, 3) := by decide +kernel
theorem d_MO_pays_31 : decode b_MO_pays 31 = .ok (.ifCond .ne 7, 3) := by decide +kernel
theorem d_MO_pays_34 : decode b_MO_pays 34 = .ok (.iconst 1, 1) := by decide +kernel
theorem d_MO_pays_35 : decode b_MO_pays 35 = .ok (.goto 4, 3) := by decide +kernel
theorem d_MO_pays_38 : decode b_MO_pays 38 = .ok (.iconst 0, 1) := by decide +kernel
theorem d_MO_pays_39 : decode b_MO_pays 39 = .ok (.if_icmp .ne 9, 3) := by decide +kernel
theorem d_MO_pays_42 : decode b_MO_pays 42 = .ok (.iload_n 1, 1) := by decide +kernel
theorem d_MO_pays_43 : decode b_MO_pays 43 = .ok (.iload_n 2, 1) := by decide +kernel
theorem d_MO_pays_44 : decode b_MO_pays 44 = .ok (.iadd, 1) := by decide +kernel
theorem d_MO_pays_45 : decode b_MO_pays 45 = .ok (.goto 4, 3) := by decide +kernel
theorem d_MO_pays_48 : decode b_MO_pays 48 = .ok (.iconst 0, 1) := by decide +kernel
theorem d_MO_pays_49 : decode b_MO_pays 49 = .ok (.ireturn, 1) := by decide +kernel
theorem d_MO_isLetter_0 : decode b_MO_isLetter 0 = .ok (.iload_n 1, 1) := by decide +kernel
theorem d_MO_isLetter_1 : decode b_MO_isLetter 1 = .ok (.ifCond .lt 15, 3) := by decide +kernel
theorem d_MO_isLetter_4 : decode b_MO_isLetter 4 = .ok (.iload_n 1, 1) := by decide +kernel
theorem d_MO_isLetter_5 : decode b_MO_isLetter 5 = .ok (.aload_n 0, 1) := by decide +kernel
theorem d_MO_isLetter_6 : decode b_MO_isLetter 6 = .ok (.getfield 110, 3) := by decide +kernel
theorem d_MO_isLetter_9 : decode b_MO_isLetter 9 = .ok (.if_icmp .ge 7, 3) := by decide +kernel
theorem d_MO_isLetter_12 : decode b_MO_isLetter 12 = .ok (.iconst 1, 1) := by decide +kernel
theorem d_MO_isLetter_13 : decode b_MO_isLetter 13 = .ok (.goto 4, 3) := by decide +kernel
theorem d_MO_isLetter_16 : decode b_MO_isLetter 16 = .ok (.iconst 0, 1) := by decide +kernel
theorem d_MO_isLetter_17 : decode b_MO_isLetter 17 = .ok (.ireturn, 1) := by decide +kernel
theorem d_MO_write_0 : decode b_MO_write 0 = .ok (.aload_n 0, 1) := by decide +kernel
theorem d_MO_write_1 : decode b_MO_write 1 = .ok (.getfield 31, 3) := by decide +kernel
theorem d_MO_write_4 : decode b_MO_write 4 = .ok (.aload_n 0, 1) := by decide +kernel
theorem d_MO_write_5 : decode b_MO_write 5 = .ok (.getfield 110, 3) := by decide +kernel
theorem d_MO_write_8 : decode b_MO_write 8 = .ok (.iload_n 1, 1) := by decide +kernel
theorem d_MO_write_9 : decode b_MO_write 9 = .ok (.iastore, 1) := by decide +kernel
theorem d_MO_write_10 : decode b_MO_write 10 = .ok (.aload_n 0, 1) := by decide +kernel
theorem d_MO_write_11 : decode b_MO_write 11 = .ok (.getfield 34, 3) := by decide +kernel
theorem d_MO_write_14 : decode b_MO_write 14 = .ok (.aload_n 0, 1) := by decide +kernel
theorem d_MO_write_15 : decode b_MO_write 15 = .ok (.getfield 110, 3) := by decide +kernel
theorem d_MO_write_18 : decode b_MO_write 18 = .ok (.iload_n 2, 1) := by decide +kernel
theorem d_MO_write_19 : decode b_MO_write 19 = .ok (.iastore, 1) := by decide +kernel
theorem d_MO_write_20 : decode b_MO_write 20 = .ok (.aload_n 0, 1) := by decide +kernel
theorem d_MO_write_21 : decode b_MO_write 21 = .ok (.getfield 37, 3) := by decide +kernel
theorem d_MO_write_24 : decode b_MO_write 24 = .ok (.aload_n 0, 1) := by decide +kernel
theorem d_MO_write_25 : decode b_MO_write 25 = .ok (.getfield 110, 3) := by decide +kernel
theorem d_MO_write_28 : decode b_MO_write 28 = .ok (.iload_n 3, 1) := by decide +kernel
theorem d_MO_write_29 : decode b_MO_write 29 = .ok (.iastore, 1) := by decide +kernel
theorem d_MO_write_30 : decode b_MO_write 30 = .ok (.aload_n 0, 1) := by decide +kernel
theorem d_MO_write_31 : decode b_MO_write 31 = .ok (.getfield 40, 3) := by decide +kernel
theorem d_MO_write_34 : decode b_MO_write 34 = .ok (.aload_n 0, 1) := by decide +kernel
theorem d_MO_write_35 : decode b_MO_write 35 = .ok (.getfield 110, 3) := by decide +kernel
theorem d_MO_write_38 : decode b_MO_write 38 = .ok (.iload 4, 2) := by decide +kernel
theorem d_MO_write_40 : decode b_MO_write 40 = .ok (.iastore, 1) := by decide +kernel
theorem d_MO_write_41 : decode b_MO_write 41 = .ok (.aload_n 0, 1) := by decide +kernel
theorem d_MO_write_42 : decode b_MO_write 42 = .ok (.getfield 43, 3) := by decide +kernel
theorem d_MO_write_45 : decode b_MO_write 45 = .ok (.aload_n 0, 1) := by decide +kernel
theorem d_MO_write_46 : decode b_MO_write 46 = .ok (.getfield 110, 3) := by decide +kernel
theorem d_MO_write_49 : decode b_MO_write 49 = .ok (.bipush (-9), 2) := by decide +kernel
theorem d_MO_write_51 : decode b_MO_write 51 = .ok (.iastore, 1) := by decide +kernel
theorem d_MO_write_52 : decode b_MO_write 52 = .ok (.aload_n 0, 1) := by decide +kernel
theorem d_MO_write_53 : decode b_MO_write 53 = .ok (.getfield 46, 3) := by decide +kernel
theorem d_MO_write_56 : decode b_MO_write 56 = .ok (.aload_n 0, 1) := by decide +kernel
theorem d_MO_write_57 : decode b_MO_write 57 = .ok (.getfield 110, 3) := by decide +kernel
theorem d_MO_write_60 : decode b_MO_write 60 = .ok (.iload 5, 2) := by decide +kernel
theorem d_MO_write_62 : decode b_MO_write 62 = .ok (.iastore, 1) := by decide +kernel
theorem d_MO_write_63 : decode b_MO_write 63 = .ok (.aload_n 0, 1) := by decide +kernel
theorem d_MO_write_64 : decode b_MO_write 64 = .ok (.dup, 1) := by decide +kernel
theorem d_MO_write_65 : decode b_MO_write 65 = .ok (.getfield 110, 3) := by decide +kernel
theorem d_MO_write_68 : decode b_MO_write 68 = .ok (.iconst 1, 1) := by decide +kernel
theorem d_MO_write_69 : decode b_MO_write 69 = .ok (.iadd, 1) := by decide +kernel
theorem d_MO_write_70 : decode b_MO_write 70 = .ok (.putfield 110, 3) := by decide +kernel
theorem d_MO_write_73 : decode b_MO_write 73 = .ok (.aload_n 0, 1) := by decide +kernel
theorem d_MO_write_74 : decode b_MO_write 74 = .ok (.getfield 110, 3) := by decide +kernel
theorem d_MO_write_77 : decode b_MO_write 77 = .ok (.iconst 1, 1) := by decide +kernel
theorem d_MO_write_78 : decode b_MO_write 78 = .ok (.isub, 1) := by decide +kernel
theorem d_MO_write_79 : decode b_MO_write 79 = .ok (.ireturn, 1) := by decide +kernel
theorem d_MO_send_0 : decode b_MO_send 0 = .ok (.aload_n 0, 1) := by decide +kernel
theorem d_MO_send_1 : decode b_MO_send 1 = .ok (.iload_n 1, 1) := by decide +kernel
theorem d_MO_send_2 : decode b_MO_send 2 = .ok (.invokevirtual 116, 3) := by decide +kernel
theorem d_MO_send_5 : decode b_MO_send 5 = .ok (.ifCond .eq 16, 3) := by decide +kernel
theorem d_MO_send_8 : decode b_MO_send 8 = .ok (.aload_n 0, 1) := by decide +kernel
theorem d_MO_send_9 : decode b_MO_send 9 = .ok (.iload_n 2, 1) := by decide +kernel
theorem d_MO_send_10 : decode b_MO_send 10 = .ok (.invokevirtual 116, 3) := by decide +kernel
theorem d_MO_send_13 : decode b_MO_send 13 = .ok (.ifCond .eq 8, 3) := by decide +kernel
theorem d_MO_send_16 : decode b_MO_send 16 = .ok (.iload_n 1, 1) := by decide +kernel
theorem d_MO_send_17 : decode b_MO_send 17 = .ok (.iload_n 2, 1) := by decide +kernel
theorem d_MO_send_18 : decode b_MO_send 18 = .ok (.if_icmp .ne 5, 3) := by decide +kernel
theorem d_MO_send_21 : decode b_MO_send 21 = .ok (.iconst (-1), 1) := by decide +kernel
theorem d_MO_send_22 : decode b_MO_send 22 = .ok (.ireturn, 1) := by decide +kernel
theorem d_MO_send_23 : decode b_MO_send 23 = .ok (.iload_n 3, 1) := by decide +kernel
theorem d_MO_send_24 : decode b_MO_send 24 = .ok (.iconst 1, 1) := by decide +kernel
theorem d_MO_send_25 : decode b_MO_send 25 = .ok (.bipush 99, 2) := by decide +kernel
theorem d_MO_send_27 : decode b_MO_send 27 = .ok (.invokestatic 76, 3) := by decide +kernel
theorem d_MO_send_30 : decode b_MO_send 30 = .ok (.ifCond .eq 11, 3) := by decide +kernel
theorem d_MO_send_33 : decode b_MO_send 33 = .ok (.iload 4, 2) := by decide +kernel
theorem d_MO_send_35 : decode b_MO_send 35 = .ok (.invokestatic 123, 3) := by decide +kernel
theorem d_MO_send_38 : decode b_MO_send 38 = .ok (.ifCond .ne 6, 3) := by decide +kernel
theorem d_MO_send_41 : decode b_MO_send 41 = .ok (.bipush (-2), 2) := by decide +kernel
theorem d_MO_send_43 : decode b_MO_send 43 = .ok (.ireturn, 1) := by decide +kernel
theorem d_MO_send_44 : decode b_MO_send 44 = .ok (.aload_n 0, 1) := by decide +kernel
theorem d_MO_send_45 : decode b_MO_send 45 = .ok (.getfield 110, 3) := by decide +kernel
theorem d_MO_send_48 : decode b_MO_send 48 = .ok (.bipush 24, 2) := by decide +kernel
theorem d_MO_send_50 : decode b_MO_send 50 = .ok (.if_icmp .ne 8, 3) := by decide +kernel
theorem d_MO_send_53 : decode b_MO_send 53 = .ok (.bipush (-4), 2) := by decide +kernel
theorem d_MO_send_55 : decode b_MO_send 55 = .ok (.goto 14, 3) := by decide +kernel
theorem d_MO_send_58 : decode b_MO_send 58 = .ok (.aload_n 0, 1) := by decide +kernel
theorem d_MO_send_59 : decode b_MO_send 59 = .ok (.iload_n 1, 1) := by decide +kernel
theorem d_MO_send_60 : decode b_MO_send 60 = .ok (.iload_n 2, 1) := by decide +kernel
theorem d_MO_send_61 : decode b_MO_send 61 = .ok (.iload_n 3, 1) := by decide +kernel
theorem d_MO_send_62 : decode b_MO_send 62 = .ok (.iload 4, 2) := by decide +kernel
theorem d_MO_send_64 : decode b_MO_send 64 = .ok (.bipush (-9), 2) := by decide +kernel
theorem d_MO_send_66 : decode b_MO_send 66 = .ok (.invokevirtual 126, 3) := by decide +kernel
theorem d_MO_send_69 : decode b_MO_send 69 = .ok (.ireturn, 1) := by decide +kernel
theorem d_MO_answer_0 : decode b_MO_answer 0 = .ok (.aload_n 0, 1) := by decide +kernel
theorem d_MO_answer_1 : decode b_MO_answer 1 = .ok (.iload_n 1, 1) := by decide +kernel
theorem d_MO_answer_2 : decode b_MO_answer 2 = .ok (.invokevirtual 130, 3) := by decide +kernel
theorem d_MO_answer_5 : decode b_MO_answer 5 = .ok (.ifCond .ne 5, 3) := by decide +kernel
theorem d_MO_answer_8 : decode b_MO_answer 8 = .ok (.iconst (-1), 1) := by decide +kernel
theorem d_MO_answer_9 : decode b_MO_answer 9 = .ok (.ireturn, 1) := by decide +kernel
theorem d_MO_answer_10 : decode b_MO_answer 10 = .ok (.iload_n 2, 1) := by decide +kernel
theorem d_MO_answer_11 : decode b_MO_answer 11 = .ok (.iconst 1, 1) := by decide +kernel
theorem d_MO_answer_12 : decode b_MO_answer 12 = .ok (.bipush 99, 2) := by decide +kernel
theorem d_MO_answer_14 : decode b_MO_answer 14 = .ok (.invokestatic 76, 3) := by decide +kernel
theorem d_MO_answer_17 : decode b_MO_answer 17 = .ok (.ifCond .eq 20, 3) := by decide +kernel
theorem d_MO_answer_20 : decode b_MO_answer 20 = .ok (.iload_n 3, 1) := by decide +kernel
theorem d_MO_answer_21 : decode b_MO_answer 21 = .ok (.invokestatic 123, 3) := by decide +kernel
theorem d_MO_answer_24 : decode b_MO_answer 24 = .ok (.ifCond .eq 13, 3) := by decide +kernel
theorem d_MO_answer_27 : decode b_MO_answer 27 = .ok (.iload_n 3, 1) := by decide +kernel
theorem d_MO_answer_28 : decode b_MO_answer 28 = .ok (.aload_n 0, 1) := by decide +kernel
theorem d_MO_answer_29 : decode b_MO_answer 29 = .ok (.getfield 40, 3) := by decide +kernel
theorem d_MO_answer_32 : decode b_MO_answer 32 = .ok (.iload_n 1, 1) := by decide +kernel
theorem d_MO_answer_33 : decode b_MO_answer 33 = .ok (.iaload, 1) := by decide +kernel
theorem d_MO_answer_34 : decode b_MO_answer 34 = .ok (.if_icmp .ge 6, 3) := by decide +kernel
theorem d_MO_answer_37 : decode b_MO_answer 37 = .ok (.bipush (-2), 2) := by decide +kernel
theorem d_MO_answer_39 : decode b_MO_answer 39 = .ok (.ireturn, 1) := by decide +kernel
theorem d_MO_answer_40 : decode b_MO_answer 40 = .ok (.aload_n 0, 1) := by decide +kernel
theorem d_MO_answer_41 : decode b_MO_answer 41 = .ok (.getfield 43, 3) := by decide +kernel
theorem d_MO_answer_44 : decode b_MO_answer 44 = .ok (.iload_n 1, 1) := by decide +kernel
theorem d_MO_answer_45 : decode b_MO_answer 45 = .ok (.iaload, 1) := by decide +kernel
theorem d_MO_answer_46 : decode b_MO_answer 46 = .ok (.bipush (-9), 2) := by decide +kernel
theorem d_MO_answer_48 : decode b_MO_answer 48 = .ok (.if_icmp .eq 6, 3) := by decide +kernel
theorem d_MO_answer_51 : decode b_MO_answer 51 = .ok (.bipush (-3), 2) := by decide +kernel
theorem d_MO_answer_53 : decode b_MO_answer 53 = .ok (.ireturn, 1) := by decide +kernel
theorem d_MO_answer_54 : decode b_MO_answer 54 = .ok (.aload_n 0, 1) := by decide +kernel
theorem d_MO_answer_55 : decode b_MO_answer 55 = .ok (.getfield 110, 3) := by decide +kernel
theorem d_MO_answer_58 : decode b_MO_answer 58 = .ok (.bipush 24, 2) := by decide +kernel
theorem d_MO_answer_60 : decode b_MO_answer 60 = .ok (.if_icmp .ne 6, 3) := by decide +kernel
theorem d_MO_answer_63 : decode b_MO_answer 63 = .ok (.bipush (-4), 2) := by decide +kernel
theorem d_MO_answer_65 : decode b_MO_answer 65 = .ok (.ireturn, 1) := by decide +kernel
theorem d_MO_answer_66 : decode b_MO_answer 66 = .ok (.aload_n 0, 1) := by decide +kernel
theorem d_MO_answer_67 : decode b_MO_answer 67 = .ok (.getfield 43, 3) := by decide +kernel
theorem d_MO_answer_70 : decode b_MO_answer 70 = .ok (.iload_n 1, 1) := by decide +kernel
theorem d_MO_answer_71 : decode b_MO_answer 71 = .ok (.aload_n 0, 1) := by decide +kernel
theorem d_MO_answer_72 : decode b_MO_answer 72 = .ok (.getfield 110, 3) := by decide +kernel
theorem d_MO_answer_75 : decode b_MO_answer 75 = .ok (.iastore, 1) := by decide +kernel
theorem d_MO_answer_76 : decode b_MO_answer 76 = .ok (.aload_n 0, 1) := by decide +kernel
theorem d_MO_answer_77 : decode b_MO_answer 77 = .ok (.aload_n 0, 1) := by decide +kernel
theorem d_MO_answer_78 : decode b_MO_answer 78 = .ok (.getfield 34, 3) := by decide +kernel
theorem d_MO_answer_81 : decode b_MO_answer 81 = .ok (.iload_n 1, 1) := by decide +kernel
theorem d_MO_answer_82 : decode b_MO_answer 82 = .ok (.iaload, 1) := by decide +kernel
theorem d_MO_answer_83 : decode b_MO_answer 83 = .ok (.aload_n 0, 1) := by decide +kernel
theorem d_MO_answer_84 : decode b_MO_answer 84 = .ok (.getfield 31, 3) := by decide +kernel
theorem d_MO_answer_87 : decode b_MO_answer 87 = .ok (.iload_n 1, 1) := by decide +kernel
theorem d_MO_answer_88 : decode b_MO_answer 88 = .ok (.iaload, 1) := by decide +kernel
theorem d_MO_answer_89 : decode b_MO_answer 89 = .ok (.iload_n 2, 1) := by decide +kernel
theorem d_MO_answer_90 : decode b_MO_answer 90 = .ok (.iload_n 3, 1) := by decide +kernel
theorem d_MO_answer_91 : decode b_MO_answer 91 = .ok (.iload_n 1, 1) := by decide +kernel
theorem d_MO_answer_92 : decode b_MO_answer 92 = .ok (.invokevirtual 126, 3) := by decide +kernel
theorem d_MO_answer_95 : decode b_MO_answer 95 = .ok (.ireturn, 1) := by decide +kernel
theorem d_MO_scaleOf_0 : decode b_MO_scaleOf 0 = .ok (.aload_n 0, 1) := by decide +kernel
theorem d_MO_scaleOf_1 : decode b_MO_scaleOf 1 = .ok (.aload_n 0, 1) := by decide +kernel
theorem d_MO_scaleOf_2 : decode b_MO_scaleOf 2 = .ok (.getfield 31, 3) := by decide +kernel
theorem d_MO_scaleOf_5 : decode b_MO_scaleOf 5 = .ok (.iload_n 1, 1) := by decide +kernel
theorem d_MO_scaleOf_6 : decode b_MO_scaleOf 6 = .ok (.iaload, 1) := by decide +kernel
theorem d_MO_scaleOf_7 : decode b_MO_scaleOf 7 = .ok (.aload_n 0, 1) := by decide +kernel
theorem d_MO_scaleOf_8 : decode b_MO_scaleOf 8 = .ok (.getfield 37, 3) := by decide +kernel
theorem d_MO_scaleOf_11 : decode b_MO_scaleOf 11 = .ok (.iload_n 1, 1) := by decide +kernel
theorem d_MO_scaleOf_12 : decode b_MO_scaleOf 12 = .ok (.iaload, 1) := by decide +kernel
theorem d_MO_scaleOf_13 : decode b_MO_scaleOf 13 = .ok (.invokevirtual 119, 3) := by decide +kernel
theorem d_MO_scaleOf_16 : decode b_MO_scaleOf 16 = .ok (.ireturn, 1) := by decide +kernel
theorem d_MO_ofLetter_0 : decode b_MO_ofLetter 0 = .ok (.aload_n 0, 1) := by decide +kernel
theorem d_MO_ofLetter_1 : decode b_MO_ofLetter 1 = .ok (.iload_n 1, 1) := by decide +kernel
theorem d_MO_ofLetter_2 : decode b_MO_ofLetter 2 = .ok (.invokevirtual 130, 3) := by decide +kernel
theorem d_MO_ofLetter_5 : decode b_MO_ofLetter 5 = .ok (.ifCond .ne 5, 3) := by decide +kernel
theorem d_MO_ofLetter_8 : decode b_MO_ofLetter 8 = .ok (.iconst (-1), 1) := by decide +kernel
theorem d_MO_ofLetter_9 : decode b_MO_ofLetter 9 = .ok (.ireturn, 1) := by decide +kernel
theorem d_MO_ofLetter_10 : decode b_MO_ofLetter 10 = .ok (.iload_n 2, 1) := by decide +kernel
theorem d_MO_ofLetter_11 : decode b_MO_ofLetter 11 = .ok (.tableswitch 89 0 6 #[41, 48, 55, 62, 69, 76, 83], 41) := by decide +kernel
theorem d_MO_ofLetter_52 : decode b_MO_ofLetter 52 = .ok (.aload_n 0, 1) := by decide +kernel
theorem d_MO_ofLetter_53 : decode b_MO_ofLetter 53 = .ok (.getfield 31, 3) := by decide +kernel
theorem d_MO_ofLetter_56 : decode b_MO_ofLetter 56 = .ok (.iload_n 1, 1) := by decide +kernel
theorem d_MO_ofLetter_57 : decode b_MO_ofLetter 57 = .ok (.iaload, 1) := by decide +kernel
theorem d_MO_ofLetter_58 : decode b_MO_ofLetter 58 = .ok (.ireturn, 1) := by decide +kernel
theorem d_MO_ofLetter_59 : decode b_MO_ofLetter 59 = .ok (.aload_n 0, 1) := by decide +kernel
theorem d_MO_ofLetter_60 : decode b_MO_ofLetter 60 = .ok (.getfield 34, 3) := by decide +kernel
theorem d_MO_ofLetter_63 : decode b_MO_ofLetter 63 = .ok (.iload_n 1, 1) := by decide +kernel
theorem d_MO_ofLetter_64 : decode b_MO_ofLetter 64 = .ok (.iaload, 1) := by decide +kernel
theorem d_MO_ofLetter_65 : decode b_MO_ofLetter 65 = .ok (.ireturn, 1) := by decide +kernel
theorem d_MO_ofLetter_66 : decode b_MO_ofLetter 66 = .ok (.aload_n 0, 1) := by decide +kernel
theorem d_MO_ofLetter_67 : decode b_MO_ofLetter 67 = .ok (.getfield 37, 3) := by decide +kernel
theorem d_MO_ofLetter_70 : decode b_MO_ofLetter 70 = .ok (.iload_n 1, 1) := by decide +kernel
theorem d_MO_ofLetter_71 : decode b_MO_ofLetter 71 = .ok (.iaload, 1) := by decide +kernel
theorem d_MO_ofLetter_72 : decode b_MO_ofLetter 72 = .ok (.ireturn, 1) := by decide +kernel
theorem d_MO_ofLetter_73 : decode b_MO_ofLetter 73 = .ok (.aload_n 0, 1) := by decide +kernel
theorem d_MO_ofLetter_74 : decode b_MO_ofLetter 74 = .ok (.getfield 40, 3) := by decide +kernel
theorem d_MO_ofLetter_77 : decode b_MO_ofLetter 77 = .ok (.iload_n 1, 1) := by decide +kernel
theorem d_MO_ofLetter_78 : decode b_MO_ofLetter 78 = .ok (.iaload, 1) := by decide +kernel
theorem d_MO_ofLetter_79 : decode b_MO_ofLetter 79 = .ok (.ireturn, 1) := by decide +kernel
theorem d_MO_ofLetter_80 : decode b_MO_ofLetter 80 = .ok (.aload_n 0, 1) := by decide +kernel
theorem d_MO_ofLetter_81 : decode b_MO_ofLetter 81 = .ok (.getfield 43, 3) := by decide +kernel
theorem d_MO_ofLetter_84 : decode b_MO_ofLetter 84 = .ok (.iload_n 1, 1) := by decide +kernel
theorem d_MO_ofLetter_85 : decode b_MO_ofLetter 85 = .ok (.iaload, 1) := by decide +kernel
theorem d_MO_ofLetter_86 : decode b_MO_ofLetter 86 = .ok (.ireturn, 1) := by decide +kernel
theorem d_MO_ofLetter_87 : decode b_MO_ofLetter 87 = .ok (.aload_n 0, 1) := by decide +kernel
theorem d_MO_ofLetter_88 : decode b_MO_ofLetter 88 = .ok (.getfield 46, 3) := by decide +kernel
theorem d_MO_ofLetter_91 : decode b_MO_ofLetter 91 = .ok (.iload_n 1, 1) := by decide +kernel
theorem d_MO_ofLetter_92 : decode b_MO_ofLetter 92 = .ok (.iaload, 1) := by decide +kernel
theorem d_MO_ofLetter_93 : decode b_MO_ofLetter 93 = .ok (.ireturn, 1) := by decide +kernel
theorem d_MO_ofLetter_94 : decode b_MO_ofLetter 94 = .ok (.aload_n 0, 1) := by decide +kernel
theorem d_MO_ofLetter_95 : decode b_MO_ofLetter 95 = .ok (.iload_n 1, 1) := by decide +kernel
theorem d_MO_ofLetter_96 : decode b_MO_ofLetter 96 = .ok (.invokevirtual 133, 3) := by decide +kernel
theorem d_MO_ofLetter_99 : decode b_MO_ofLetter 99 = .ok (.ireturn, 1) := by decide +kernel
theorem d_MO_ofLetter_100 : decode b_MO_ofLetter 100 = .ok (.bipush (-2), 2) := by decide +kernel
theorem d_MO_ofLetter_102 : decode b_MO_ofLetter 102 = .ok (.ireturn, 1) := by decide +kernel
theorem d_MO_burn_0 : decode b_MO_burn 0 = .ok (.iload_n 1, 1) := by decide +kernel
theorem d_MO_burn_1 : decode b_MO_burn 1 = .ok (.iconst 0, 1) := by decide +kernel
theorem d_MO_burn_2 : decode b_MO_burn 2 = .ok (.aload_n 0, 1) := by decide +kernel
theorem d_MO_burn_3 : decode b_MO_burn 3 = .ok (.getfield 110, 3) := by decide +kernel
theorem d_MO_burn_6 : decode b_MO_burn 6 = .ok (.invokestatic 76, 3) := by decide +kernel
theorem d_MO_burn_9 : decode b_MO_burn 9 = .ok (.ifCond .ne 6, 3) := by decide +kernel
theorem d_MO_burn_12 : decode b_MO_burn 12 = .ok (.bipush (-2), 2) := by decide +kernel
theorem d_MO_burn_14 : decode b_MO_burn 14 = .ok (.ireturn, 1) := by decide +kernel
theorem d_MO_burn_15 : decode b_MO_burn 15 = .ok (.iconst 0, 1) := by decide +kernel
theorem d_MO_burn_16 : decode b_MO_burn 16 = .ok (.istore_n 2, 1) := by decide +kernel
theorem d_MO_burn_17 : decode b_MO_burn 17 = .ok (.iload_n 2, 1) := by decide +kernel
theorem d_MO_burn_18 : decode b_MO_burn 18 = .ok (.iload_n 1, 1) := by decide +kernel
theorem d_MO_burn_19 : decode b_MO_burn 19 = .ok (.if_icmp .ge 49, 3) := by decide +kernel
theorem d_MO_burn_22 : decode b_MO_burn 22 = .ok (.aload_n 0, 1) := by decide +kernel
theorem d_MO_burn_23 : decode b_MO_burn 23 = .ok (.dup, 1) := by decide +kernel
theorem d_MO_burn_24 : decode b_MO_burn 24 = .ok (.getfield 110, 3) := by decide +kernel
theorem d_MO_burn_27 : decode b_MO_burn 27 = .ok (.iconst 1, 1) := by decide +kernel
theorem d_MO_burn_28 : decode b_MO_burn 28 = .ok (.isub, 1) := by decide +kernel
theorem d_MO_burn_29 : decode b_MO_burn 29 = .ok (.putfield 110, 3) := by decide +kernel
theorem d_MO_burn_32 : decode b_MO_burn 32 = .ok (.aload_n 0, 1) := by decide +kernel
theorem d_MO_burn_33 : decode b_MO_burn 33 = .ok (.getfield 46, 3) := by decide +kernel
theorem d_MO_burn_36 : decode b_MO_burn 36 = .ok (.aload_n 0, 1) := by decide +kernel
theorem d_MO_burn_37 : decode b_MO_burn 37 = .ok (.getfield 110, 3) := by decide +kernel
theorem d_MO_burn_40 : decode b_MO_burn 40 = .ok (.iaload, 1) := by decide +kernel
theorem d_MO_burn_41 : decode b_MO_burn 41 = .ok (.bipush (-9), 2) := by decide +kernel
theorem d_MO_burn_43 : decode b_MO_burn 43 = .ok (.if_icmp .eq 19, 3) := by decide +kernel
theorem d_MO_burn_46 : decode b_MO_burn 46 = .ok (.aload_n 0, 1) := by decide +kernel
theorem d_MO_burn_47 : decode b_MO_burn 47 = .ok (.getfield 43, 3) := by decide +kernel
theorem d_MO_burn_50 : decode b_MO_burn 50 = .ok (.aload_n 0, 1) := by decide +kernel
theorem d_MO_burn_51 : decode b_MO_burn 51 = .ok (.getfield 46, 3) := by decide +kernel
theorem d_MO_burn_54 : decode b_MO_burn 54 = .ok (.aload_n 0, 1) := by decide +kernel
theorem d_MO_burn_55 : decode b_MO_burn 55 = .ok (.getfield 110, 3) := by decide +kernel
theorem d_MO_burn_58 : decode b_MO_burn 58 = .ok (.iaload, 1) := by decide +kernel
theorem d_MO_burn_59 : decode b_MO_burn 59 = .ok (.bipush (-9), 2) := by decide +kernel
theorem d_MO_burn_61 : decode b_MO_burn 61 = .ok (.iastore, 1) := by decide +kernel
theorem d_MO_burn_62 : decode b_MO_burn 62 = .ok (.iinc 2 1, 3) := by decide +kernel
theorem d_MO_burn_65 : decode b_MO_burn 65 = .ok (.goto (-48), 3) := by decide +kernel
theorem d_MO_burn_68 : decode b_MO_burn 68 = .ok (.aload_n 0, 1) := by decide +kernel
theorem d_MO_burn_69 : decode b_MO_burn 69 = .ok (.getfield 110, 3) := by decide +kernel
theorem d_MO_burn_72 : decode b_MO_burn 72 = .ok (.ireturn, 1) := by decide +kernel
theorem d_MO_paidBy_0 : decode b_MO_paidBy 0 = .ok (.iconst 0, 1) := by decide +kernel
theorem d_MO_paidBy_1 : decode b_MO_paidBy 1 = .ok (.istore_n 3, 1) := by decide +kernel
theorem d_MO_paidBy_2 : decode b_MO_paidBy 2 = .ok (.iconst 0, 1) := by decide +kernel
theorem d_MO_paidBy_3 : decode b_MO_paidBy 3 = .ok (.istore 4, 2) := by decide +kernel
theorem d_MO_paidBy_5 : decode b_MO_paidBy 5 = .ok (.iload 4, 2) := by decide +kernel
theorem d_MO_paidBy_7 : decode b_MO_paidBy 7 = .ok (.aload_n 0, 1) := by decide +kernel
theorem d_MO_paidBy_8 : decode b_MO_paidBy 8 = .ok (.getfield 110, 3) := by decide +kernel
theorem d_MO_paidBy_11 : decode b_MO_paidBy 11 = .ok (.if_icmp .ge 104, 3) := by decide +kernel
theorem d_MO_paidBy_14 : decode b_MO_paidBy 14 = .ok (.aload_n 0, 1) := by decide +kernel
theorem d_MO_paidBy_15 : decode b_MO_paidBy 15 = .ok (.getfield 43, 3) := by decide +kernel
theorem d_MO_paidBy_18 : decode b_MO_paidBy 18 = .ok (.iload 4, 2) := by decide +kernel
theorem d_MO_paidBy_20 : decode b_MO_paidBy 20 = .ok (.iaload, 1) := by decide +kernel
theorem d_MO_paidBy_21 : decode b_MO_paidBy 21 = .ok (.istore 5, 2) := by decide +kernel
theorem d_MO_paidBy_23 : decode b_MO_paidBy 23 = .ok (.iload 5, 2) := by decide +kernel
theorem d_MO_paidBy_25 : decode b_MO_paidBy 25 = .ok (.bipush (-9), 2) := by decide +kernel
theorem d_MO_paidBy_27 : decode b_MO_paidBy 27 = .ok (.if_icmp .eq 82, 3) := by decide +kernel
theorem d_MO_paidBy_30 : decode b_MO_paidBy 30 = .ok (.aload_n 0, 1) := by decide +kernel
theorem d_MO_paidBy_31 : decode b_MO_paidBy 31 = .ok (.getfield 40, 3) := by decide +kernel
theorem d_MO_paidBy_34 : decode b_MO_paidBy 34 = .ok (.iload 5, 2) := by decide +kernel
theorem d_MO_paidBy_36 : decode b_MO_paidBy 36 = .ok (.iaload, 1) := by decide +kernel
theorem d_MO_paidBy_37 : decode b_MO_paidBy 37 = .ok (.iload_n 2, 1) := by decide +kernel
theorem d_MO_paidBy_38 : decode b_MO_paidBy 38 = .ok (.if_icmp .gt 71, 3) := by decide +kernel
theorem d_MO_paidBy_41 : decode b_MO_paidBy 41 = .ok (.iload_n 3, 1) := by decide +kernel
theorem d_MO_paidBy_42 : decode b_MO_paidBy 42 = .ok (.aload_n 0, 1) := by decide +kernel
theorem d_MO_paidBy_43 : decode b_MO_paidBy 43 = .ok (.getfield 31, 3) := by decide +kernel
theorem d_MO_paidBy_46 : decode b_MO_paidBy 46 = .ok (.iload 4, 2) := by decide +kernel
theorem d_MO_paidBy_48 : decode b_MO_paidBy 48 = .ok (.iaload, 1) := by decide +kernel
theorem d_MO_paidBy_49 : decode b_MO_paidBy 49 = .ok (.iload_n 1, 1) := by decide +kernel
theorem d_MO_paidBy_50 : decode b_MO_paidBy 50 = .ok (.if_icmp .ne 22, 3) := by decide +kernel
theorem d_MO_paidBy_53 : decode b_MO_paidBy 53 = .ok (.aload_n 0, 1) := by decide +kernel
theorem d_MO_paidBy_54 : decode b_MO_paidBy 54 = .ok (.aload_n 0, 1) := by decide +kernel
theorem d_MO_paidBy_55 : decode b_MO_paidBy 55 = .ok (.iload 4, 2) := by decide +kernel
theorem d_MO_paidBy_57 : decode b_MO_paidBy 57 = .ok (.invokevirtual 133, 3) := by decide +kernel
theorem d_MO_paidBy_60 : decode b_MO_paidBy 60 = .ok (.aload_n 0, 1) := by decide +kernel
theorem d_MO_paidBy_61 : decode b_MO_paidBy 61 = .ok (.iload 5, 2) := by decide +kernel
theorem d_MO_paidBy_63 : decode b_MO_paidBy 63 = .ok (.invokevirtual 133, 3) := by decide +kernel
theorem d_MO_paidBy_66 : decode b_MO_paidBy 66 = .ok (.invokevirtual 136, 3) := by decide +kernel
theorem d_MO_paidBy_69 : decode b_MO_paidBy 69 = .ok (.goto 4, 3) := by decide +kernel
theorem d_MO_paidBy_72 : decode b_MO_paidBy 72 = .ok (.iconst 0, 1) := by decide +kernel
theorem d_MO_paidBy_73 : decode b_MO_paidBy 73 = .ok (.iadd, 1) := by decide +kernel
theorem d_MO_paidBy_74 : decode b_MO_paidBy 74 = .ok (.istore_n 3, 1) := by decide +kernel
theorem d_MO_paidBy_75 : decode b_MO_paidBy 75 = .ok (.iload_n 3, 1) := by decide +kernel
theorem d_MO_paidBy_76 : decode b_MO_paidBy 76 = .ok (.aload_n 0, 1) := by decide +kernel
theorem d_MO_paidBy_77 : decode b_MO_paidBy 77 = .ok (.getfield 31, 3) := by decide +kernel
theorem d_MO_paidBy_80 : decode b_MO_paidBy 80 = .ok (.iload 5, 2) := by decide +kernel
theorem d_MO_paidBy_82 : decode b_MO_paidBy 82 = .ok (.iaload, 1) := by decide +kernel
theorem d_MO_paidBy_83 : decode b_MO_paidBy 83 = .ok (.iload_n 1, 1) := by decide +kernel
theorem d_MO_paidBy_84 : decode b_MO_paidBy 84 = .ok (.if_icmp .ne 22, 3) := by decide +kernel
theorem d_MO_paidBy_87 : decode b_MO_paidBy 87 = .ok (.aload_n 0, 1) := by decide +kernel
theorem d_MO_paidBy_88 : decode b_MO_paidBy 88 = .ok (.aload_n 0, 1) := by decide +kernel
theorem d_MO_paidBy_89 : decode b_MO_paidBy 89 = .ok (.iload 5, 2) := by decide +kernel
theorem d_MO_paidBy_91 : decode b_MO_paidBy 91 = .ok (.invokevirtual 133, 3) := by decide +kernel
theorem d_MO_paidBy_94 : decode b_MO_paidBy 94 = .ok (.aload_n 0, 1) := by decide +kernel
theorem d_MO_paidBy_95 : decode b_MO_paidBy 95 = .ok (.iload 4, 2) := by decide +kernel
theorem d_MO_paidBy_97 : decode b_MO_paidBy 97 = .ok (.invokevirtual 133, 3) := by decide +kernel
theorem d_MO_paidBy_100 : decode b_MO_paidBy 100 = .ok (.invokevirtual 136, 3) := by decide +kernel
theorem d_MO_paidBy_103 : decode b_MO_paidBy 103 = .ok (.goto 4, 3) := by decide +kernel
theorem d_MO_paidBy_106 : decode b_MO_paidBy 106 = .ok (.iconst 0, 1) := by decide +kernel
theorem d_MO_paidBy_107 : decode b_MO_paidBy 107 = .ok (.iadd, 1) := by decide +kernel
theorem d_MO_paidBy_108 : decode b_MO_paidBy 108 = .ok (.istore_n 3, 1) := by decide +kernel
theorem d_MO_paidBy_109 : decode b_MO_paidBy 109 = .ok (.iinc 4 1, 3) := by decide +kernel
theorem d_MO_paidBy_112 : decode b_MO_paidBy 112 = .ok (.goto (-107), 3) := by decide +kernel
theorem d_MO_paidBy_115 : decode b_MO_paidBy 115 = .ok (.iload_n 3, 1) := by decide +kernel
theorem d_MO_paidBy_116 : decode b_MO_paidBy 116 = .ok (.ireturn, 1) := by decide +kernel
theorem d_MO_paid_0 : decode b_MO_paid 0 = .ok (.aload_n 0, 1) := by decide +kernel
theorem d_MO_paid_1 : decode b_MO_paid 1 = .ok (.iload_n 1, 1) := by decide +kernel
theorem d_MO_paid_2 : decode b_MO_paid 2 = .ok (.invokevirtual 116, 3) := by decide +kernel
theorem d_MO_paid_5 : decode b_MO_paid 5 = .ok (.ifCond .ne 5, 3) := by decide +kernel
theorem d_MO_paid_8 : decode b_MO_paid 8 = .ok (.iconst (-1), 1) := by decide +kernel
theorem d_MO_paid_9 : decode b_MO_paid 9 = .ok (.ireturn, 1) := by decide +kernel
theorem d_MO_paid_10 : decode b_MO_paid 10 = .ok (.iload_n 2, 1) := by decide +kernel
theorem d_MO_paid_11 : decode b_MO_paid 11 = .ok (.invokestatic 123, 3) := by decide +kernel
theorem d_MO_paid_14 : decode b_MO_paid 14 = .ok (.ifCond .eq 12, 3) := by decide +kernel
theorem d_MO_paid_17 : decode b_MO_paid 17 = .ok (.aload_n 0, 1) := by decide +kernel
theorem d_MO_paid_18 : decode b_MO_paid 18 = .ok (.iload_n 1, 1) := by decide +kernel
theorem d_MO_paid_19 : decode b_MO_paid 19 = .ok (.iload_n 2, 1) := by decide +kernel
theorem d_MO_paid_20 : decode b_MO_paid 20 = .ok (.invokevirtual 139, 3) := by decide +kernel
theorem d_MO_paid_23 : decode b_MO_paid 23 = .ok (.goto 5, 3) := by decide +kernel
theorem d_MO_paid_26 : decode b_MO_paid 26 = .ok (.bipush (-2), 2) := by decide +kernel
theorem d_MO_paid_28 : decode b_MO_paid 28 = .ok (.ireturn, 1) := by decide +kernel
theorem d_MO_owed_0 : decode b_MO_owed 0 = .ok (.iconst 0, 1) := by decide +kernel
theorem d_MO_owed_1 : decode b_MO_owed 1 = .ok (.istore 4, 2) := by decide +kernel
theorem d_MO_owed_3 : decode b_MO_owed 3 = .ok (.iconst 0, 1) := by decide +kernel
theorem d_MO_owed_4 : decode b_MO_owed 4 = .ok (.istore 5, 2) := by decide +kernel
theorem d_MO_owed_6 : decode b_MO_owed 6 = .ok (.iload 5, 2) := by decide +kernel
theorem d_MO_owed_8 : decode b_MO_owed 8 = .ok (.aload_n 0, 1) := by decide +kernel
theorem d_MO_owed_9 : decode b_MO_owed 9 = .ok (.getfield 110, 3) := by decide +kernel
theorem d_MO_owed_12 : decode b_MO_owed 12 = .ok (.if_icmp .ge 107, 3) := by decide +kernel
theorem d_MO_owed_15 : decode b_MO_owed 15 = .ok (.aload_n 0, 1) := by decide +kernel
theorem d_MO_owed_16 : decode b_MO_owed 16 = .ok (.getfield 40, 3) := by decide +kernel
theorem d_MO_owed_19 : decode b_MO_owed 19 = .ok (.iload 5, 2) := by decide +kernel
theorem d_MO_owed_21 : decode b_MO_owed 21 = .ok (.iaload, 1) := by decide +kernel
theorem d_MO_owed_22 : decode b_MO_owed 22 = .ok (.iload_n 3, 1) := by decide +kernel
theorem d_MO_owed_23 : decode b_MO_owed 23 = .ok (.if_icmp .gt 35, 3) := by decide +kernel
theorem d_MO_owed_26 : decode b_MO_owed 26 = .ok (.aload_n 0, 1) := by decide +kernel
theorem d_MO_owed_27 : decode b_MO_owed 27 = .ok (.getfield 43, 3) := by decide +kernel
theorem d_MO_owed_30 : decode b_MO_owed 30 = .ok (.iload 5, 2) := by decide +kernel
theorem d_MO_owed_32 : decode b_MO_owed 32 = .ok (.iaload, 1) := by decide +kernel
theorem d_MO_owed_33 : decode b_MO_owed 33 = .ok (.bipush (-9), 2) := by decide +kernel
theorem d_MO_owed_35 : decode b_MO_owed 35 = .ok (.if_icmp .eq 19, 3) := by decide +kernel
theorem d_MO_owed_38 : decode b_MO_owed 38 = .ok (.aload_n 0, 1) := by decide +kernel
theorem d_MO_owed_39 : decode b_MO_owed 39 = .ok (.getfield 40, 3) := by decide +kernel
theorem d_MO_owed_42 : decode b_MO_owed 42 = .ok (.aload_n 0, 1) := by decide +kernel
theorem d_MO_owed_43 : decode b_MO_owed 43 = .ok (.getfield 43, 3) := by decide +kernel
theorem d_MO_owed_46 : decode b_MO_owed 46 = .ok (.iload 5, 2) := by decide +kernel
theorem d_MO_owed_48 : decode b_MO_owed 48 = .ok (.iaload, 1) := by decide +kernel
theorem d_MO_owed_49 : decode b_MO_owed 49 = .ok (.iaload, 1) := by decide +kernel
theorem d_MO_owed_50 : decode b_MO_owed 50 = .ok (.iload_n 3, 1) := by decide +kernel
theorem d_MO_owed_51 : decode b_MO_owed 51 = .ok (.if_icmp .le 7, 3) := by decide +kernel
theorem d_MO_owed_54 : decode b_MO_owed 54 = .ok (.iconst 1, 1) := by decide +kernel
theorem d_MO_owed_55 : decode b_MO_owed 55 = .ok (.goto 4, 3) := by decide +kernel
theorem d_MO_owed_58 : decode b_MO_owed 58 = .ok (.iconst 0, 1) := by decide +kernel
theorem d_MO_owed_59 : decode b_MO_owed 59 = .ok (.istore 6, 2) := by decide +kernel
theorem d_MO_owed_61 : decode b_MO_owed 61 = .ok (.iload 4, 2) := by decide +kernel
theorem d_MO_owed_63 : decode b_MO_owed 63 = .ok (.iload 6, 2) := by decide +kernel
theorem d_MO_owed_65 : decode b_MO_owed 65 = .ok (.ifCond .eq 44, 3) := by decide +kernel
theorem d_MO_owed_68 : decode b_MO_owed 68 = .ok (.aload_n 0, 1) := by decide +kernel
theorem d_MO_owed_69 : decode b_MO_owed 69 = .ok (.getfield 31, 3) := by decide +kernel
theorem d_MO_owed_72 : decode b_MO_owed 72 = .ok (.iload 5, 2) := by decide +kernel
theorem d_MO_owed_74 : decode b_MO_owed 74 = .ok (.iaload, 1) := by decide +kernel
theorem d_MO_owed_75 : decode b_MO_owed 75 = .ok (.iload_n 2, 1) := by decide +kernel
theorem d_MO_owed_76 : decode b_MO_owed 76 = .ok (.if_icmp .ne 33, 3) := by decide +kernel
theorem d_MO_owed_79 : decode b_MO_owed 79 = .ok (.aload_n 0, 1) := by decide +kernel
theorem d_MO_owed_80 : decode b_MO_owed 80 = .ok (.getfield 34, 3) := by decide +kernel
theorem d_MO_owed_83 : decode b_MO_owed 83 = .ok (.iload 5, 2) := by decide +kernel
theorem d_MO_owed_85 : decode b_MO_owed 85 = .ok (.iaload, 1) := by decide +kernel
theorem d_MO_owed_86 : decode b_MO_owed 86 = .ok (.iload_n 1, 1) := by decide +kernel
theorem d_MO_owed_87 : decode b_MO_owed 87 = .ok (.if_icmp .ne 22, 3) := by decide +kernel
theorem d_MO_owed_90 : decode b_MO_owed 90 = .ok (.aload_n 0, 1) := by decide +kernel
theorem d_MO_owed_91 : decode b_MO_owed 91 = .ok (.iload 5, 2) := by decide +kernel
theorem d_MO_owed_93 : decode b_MO_owed 93 = .ok (.invokevirtual 133, 3) := by decide +kernel
theorem d_MO_owed_96 : decode b_MO_owed 96 = .ok (.iload_n 3, 1) := by decide +kernel
theorem d_MO_owed_97 : decode b_MO_owed 97 = .ok (.aload_n 0, 1) := by decide +kernel
theorem d_MO_owed_98 : decode b_MO_owed 98 = .ok (.getfield 40, 3) := by decide +kernel
theorem d_MO_owed_101 : decode b_MO_owed 101 = .ok (.iload 5, 2) := by decide +kernel
theorem d_MO_owed_103 : decode b_MO_owed 103 = .ok (.iaload, 1) := by decide +kernel
theorem d_MO_owed_104 : decode b_MO_owed 104 = .ok (.isub, 1) := by decide +kernel
theorem d_MO_owed_105 : decode b_MO_owed 105 = .ok (.imul, 1) := by decide +kernel
theorem d_MO_owed_106 : decode b_MO_owed 106 = .ok (.goto 4, 3) := by decide +kernel
theorem d_MO_owed_109 : decode b_MO_owed 109 = .ok (.iconst 0, 1) := by decide +kernel
theorem d_MO_owed_110 : decode b_MO_owed 110 = .ok (.iadd, 1) := by decide +kernel
theorem d_MO_owed_111 : decode b_MO_owed 111 = .ok (.istore 4, 2) := by decide +kernel
theorem d_MO_owed_113 : decode b_MO_owed 113 = .ok (.iinc 5 1, 3) := by decide +kernel
theorem d_MO_owed_116 : decode b_MO_owed 116 = .ok (.goto (-110), 3) := by decide +kernel
theorem d_MO_owed_119 : decode b_MO_owed 119 = .ok (.iload 4, 2) := by decide +kernel
theorem d_MO_owed_121 : decode b_MO_owed 121 = .ok (.ireturn, 1) := by decide +kernel
theorem d_MO_owes_0 : decode b_MO_owes 0 = .ok (.aload_n 0, 1) := by decide +kernel
theorem d_MO_owes_1 : decode b_MO_owes 1 = .ok (.iload_n 1, 1) := by decide +kernel
theorem d_MO_owes_2 : decode b_MO_owes 2 = .ok (.invokevirtual 116, 3) := by decide +kernel
theorem d_MO_owes_5 : decode b_MO_owes 5 = .ok (.ifCond .eq 11, 3) := by decide +kernel
theorem d_MO_owes_8 : decode b_MO_owes 8 = .ok (.aload_n 0, 1) := by decide +kernel
theorem d_MO_owes_9 : decode b_MO_owes 9 = .ok (.iload_n 2, 1) := by decide +kernel
theorem d_MO_owes_10 : decode b_MO_owes 10 = .ok (.invokevirtual 116, 3) := by decide +kernel
theorem d_MO_owes_13 : decode b_MO_owes 13 = .ok (.ifCond .ne 5, 3) := by decide +kernel
theorem d_MO_owes_16 : decode b_MO_owes 16 = .ok (.iconst (-1), 1) := by decide +kernel
theorem d_MO_owes_17 : decode b_MO_owes 17 = .ok (.ireturn, 1) := by decide +kernel
theorem d_MO_owes_18 : decode b_MO_owes 18 = .ok (.iload_n 3, 1) := by decide +kernel
theorem d_MO_owes_19 : decode b_MO_owes 19 = .ok (.invokestatic 123, 3) := by decide +kernel
theorem d_MO_owes_22 : decode b_MO_owes 22 = .ok (.ifCond .eq 13, 3) := by decide +kernel
theorem d_MO_owes_25 : decode b_MO_owes 25 = .ok (.aload_n 0, 1) := by decide +kernel
theorem d_MO_owes_26 : decode b_MO_owes 26 = .ok (.iload_n 1, 1) := by decide +kernel
theorem d_MO_owes_27 : decode b_MO_owes 27 = .ok (.iload_n 2, 1) := by decide +kernel
theorem d_MO_owes_28 : decode b_MO_owes 28 = .ok (.iload_n 3, 1) := by decide +kernel
theorem d_MO_owes_29 : decode b_MO_owes 29 = .ok (.invokevirtual 142, 3) := by decide +kernel
theorem d_MO_owes_32 : decode b_MO_owes 32 = .ok (.goto 5, 3) := by decide +kernel
theorem d_MO_owes_35 : decode b_MO_owes 35 = .ok (.bipush (-2), 2) := by decide +kernel
theorem d_MO_owes_37 : decode b_MO_owes 37 = .ok (.ireturn, 1) := by decide +kernel
theorem d_MO_netOf_0 : decode b_MO_netOf 0 = .ok (.iconst 0, 1) := by decide +kernel
theorem d_MO_netOf_1 : decode b_MO_netOf 1 = .ok (.istore_n 3, 1) := by decide +kernel
theorem d_MO_netOf_2 : decode b_MO_netOf 2 = .ok (.iconst 0, 1) := by decide +kernel
theorem d_MO_netOf_3 : decode b_MO_netOf 3 = .ok (.istore 4, 2) := by decide +kernel
theorem d_MO_netOf_5 : decode b_MO_netOf 5 = .ok (.iload 4, 2) := by decide +kernel
theorem d_MO_netOf_7 : decode b_MO_netOf 7 = .ok (.aload_n 0, 1) := by decide +kernel
theorem d_MO_netOf_8 : decode b_MO_netOf 8 = .ok (.getfield 80, 3) := by decide +kernel
theorem d_MO_netOf_11 : decode b_MO_netOf 11 = .ok (.if_icmp .ge 29, 3) := by decide +kernel
theorem d_MO_netOf_14 : decode b_MO_netOf 14 = .ok (.iload_n 3, 1) := by decide +kernel
theorem d_MO_netOf_15 : decode b_MO_netOf 15 = .ok (.aload_n 0, 1) := by decide +kernel
theorem d_MO_netOf_16 : decode b_MO_netOf 16 = .ok (.iload 4, 2) := by decide +kernel
theorem d_MO_netOf_18 : decode b_MO_netOf 18 = .ok (.iload_n 1, 1) := by decide +kernel
theorem d_MO_netOf_19 : decode b_MO_netOf 19 = .ok (.iload_n 2, 1) := by decide +kernel
theorem d_MO_netOf_20 : decode b_MO_netOf 20 = .ok (.invokevirtual 142, 3) := by decide +kernel
theorem d_MO_netOf_23 : decode b_MO_netOf 23 = .ok (.aload_n 0, 1) := by decide +kernel
theorem d_MO_netOf_24 : decode b_MO_netOf 24 = .ok (.iload_n 1, 1) := by decide +kernel
theorem d_MO_netOf_25 : decode b_MO_netOf 25 = .ok (.iload 4, 2) := by decide +kernel
theorem d_MO_netOf_27 : decode b_MO_netOf 27 = .ok (.iload_n 2, 1) := by decide +kernel
theorem d_MO_netOf_28 : decode b_MO_netOf 28 = .ok (.invokevirtual 142, 3) := by decide +kernel
theorem d_MO_netOf_31 : decode b_MO_netOf 31 = .ok (.isub, 1) := by decide +kernel
theorem d_MO_netOf_32 : decode b_MO_netOf 32 = .ok (.iadd, 1) := by decide +kernel
theorem d_MO_netOf_33 : decode b_MO_netOf 33 = .ok (.istore_n 3, 1) := by decide +kernel
theorem d_MO_netOf_34 : decode b_MO_netOf 34 = .ok (.iinc 4 1, 3) := by decide +kernel
theorem d_MO_netOf_37 : decode b_MO_netOf 37 = .ok (.goto (-32), 3) := by decide +kernel
theorem d_MO_netOf_40 : decode b_MO_netOf 40 = .ok (.iload_n 3, 1) := by decide +kernel
theorem d_MO_netOf_41 : decode b_MO_netOf 41 = .ok (.ireturn, 1) := by decide +kernel
theorem d_MO_net_0 : decode b_MO_net 0 = .ok (.aload_n 0, 1) := by decide +kernel
theorem d_MO_net_1 : decode b_MO_net 1 = .ok (.iload_n 1, 1) := by decide +kernel
theorem d_MO_net_2 : decode b_MO_net 2 = .ok (.invokevirtual 116, 3) := by decide +kernel
theorem d_MO_net_5 : decode b_MO_net 5 = .ok (.ifCond .ne 5, 3) := by decide +kernel
theorem d_MO_net_8 : decode b_MO_net 8 = .ok (.iconst (-1), 1) := by decide +kernel
theorem d_MO_net_9 : decode b_MO_net 9 = .ok (.ireturn, 1) := by decide +kernel
theorem d_MO_net_10 : decode b_MO_net 10 = .ok (.iload_n 2, 1) := by decide +kernel
theorem d_MO_net_11 : decode b_MO_net 11 = .ok (.invokestatic 123, 3) := by decide +kernel
theorem d_MO_net_14 : decode b_MO_net 14 = .ok (.ifCond .eq 15, 3) := by decide +kernel
theorem d_MO_net_17 : decode b_MO_net 17 = .ok (.aload_n 0, 1) := by decide +kernel
theorem d_MO_net_18 : decode b_MO_net 18 = .ok (.iload_n 1, 1) := by decide +kernel
theorem d_MO_net_19 : decode b_MO_net 19 = .ok (.iload_n 2, 1) := by decide +kernel
theorem d_MO_net_20 : decode b_MO_net 20 = .ok (.invokevirtual 146, 3) := by decide +kernel
theorem d_MO_net_23 : decode b_MO_net 23 = .ok (.ldc 149, 2) := by decide +kernel
theorem d_MO_net_25 : decode b_MO_net 25 = .ok (.iadd, 1) := by decide +kernel
theorem d_MO_net_26 : decode b_MO_net 26 = .ok (.goto 5, 3) := by decide +kernel
theorem d_MO_net_29 : decode b_MO_net 29 = .ok (.bipush (-2), 2) := by decide +kernel
theorem d_MO_net_31 : decode b_MO_net 31 = .ok (.ireturn, 1) := by decide +kernel
theorem d_MO_settled_0 : decode b_MO_settled 0 = .ok (.iload_n 1, 1) := by decide +kernel
theorem d_MO_settled_1 : decode b_MO_settled 1 = .ok (.invokestatic 123, 3) := by decide +kernel
theorem d_MO_settled_4 : decode b_MO_settled 4 = .ok (.ifCond .ne 6, 3) := by decide +kernel
theorem d_MO_settled_7 : decode b_MO_settled 7 = .ok (.bipush (-2), 2) := by decide +kernel
theorem d_MO_settled_9 : decode b_MO_settled 9 = .ok (.ireturn, 1) := by decide +kernel
theorem d_MO_settled_10 : decode b_MO_settled 10 = .ok (.aload_n 0, 1) := by decide +kernel
theorem d_MO_settled_11 : decode b_MO_settled 11 = .ok (.getfield 80, 3) := by decide +kernel
theorem d_MO_settled_14 : decode b_MO_settled 14 = .ok (.ifCond .ne 6, 3) := by decide +kernel
theorem d_MO_settled_17 : decode b_MO_settled 17 = .ok (.bipush (-3), 2) := by decide +kernel
theorem d_MO_settled_19 : decode b_MO_settled 19 = .ok (.ireturn, 1) := by decide +kernel
theorem d_MO_settled_20 : decode b_MO_settled 20 = .ok (.iconst 1, 1) := by decide +kernel
theorem d_MO_settled_21 : decode b_MO_settled 21 = .ok (.aload_n 0, 1) := by decide +kernel
theorem d_MO_settled_22 : decode b_MO_settled 22 = .ok (.getfield 80, 3) := by decide +kernel
theorem d_MO_settled_25 : decode b_MO_settled 25 = .ok (.ishl, 1) := by decide +kernel
theorem d_MO_settled_26 : decode b_MO_settled 26 = .ok (.iconst 1, 1) := by decide +kernel
theorem d_MO_settled_27 : decode b_MO_settled 27 = .ok (.isub, 1) := by decide +kernel
theorem d_MO_settled_28 : decode b_MO_settled 28 = .ok (.istore_n 2, 1) := by decide +kernel
theorem d_MO_settled_29 : decode b_MO_settled 29 = .ok (.iconst 0, 1) := by decide +kernel
theorem d_MO_settled_30 : decode b_MO_settled 30 = .ok (.istore_n 3, 1) := by decide +kernel
theorem d_MO_settled_31 : decode b_MO_settled 31 = .ok (.iconst 0, 1) := by decide +kernel
theorem d_MO_settled_32 : decode b_MO_settled 32 = .ok (.istore 4, 2) := by decide +kernel
theorem d_MO_settled_34 : decode b_MO_settled 34 = .ok (.iconst 0, 1) := by decide +kernel
theorem d_MO_settled_35 : decode b_MO_settled 35 = .ok (.istore 5, 2) := by decide +kernel
theorem d_MO_settled_37 : decode b_MO_settled 37 = .ok (.iload 5, 2) := by decide +kernel
theorem d_MO_settled_39 : decode b_MO_settled 39 = .ok (.aload_n 0, 1) := by decide +kernel
theorem d_MO_settled_40 : decode b_MO_settled 40 = .ok (.getfield 80, 3) := by decide +kernel
theorem d_MO_settled_43 : decode b_MO_settled 43 = .ok (.if_icmp .ge 105, 3) := by decide +kernel
theorem d_MO_settled_46 : decode b_MO_settled 46 = .ok (.aload_n 0, 1) := by decide +kernel
theorem d_MO_settled_47 : decode b_MO_settled 47 = .ok (.iload 5, 2) := by decide +kernel
theorem d_MO_settled_49 : decode b_MO_settled 49 = .ok (.iload_n 1, 1) := by decide +kernel
theorem d_MO_settled_50 : decode b_MO_settled 50 = .ok (.invokevirtual 146, 3) := by decide +kernel
theorem d_MO_settled_53 : decode b_MO_settled 53 = .ok (.istore 6, 2) := by decide +kernel
theorem d_MO_settled_55 : decode b_MO_settled 55 = .ok (.iload 4, 2) := by decide +kernel
theorem d_MO_settled_57 : decode b_MO_settled 57 = .ok (.iload 6, 2) := by decide +kernel
theorem d_MO_settled_59 : decode b_MO_settled 59 = .ok (.ifCond .eq 10, 3) := by decide +kernel
theorem d_MO_settled_62 : decode b_MO_settled 62 = .ok (.iconst 1, 1) := by decide +kernel
theorem d_MO_settled_63 : decode b_MO_settled 63 = .ok (.iload 5, 2) := by decide +kernel
theorem d_MO_settled_65 : decode b_MO_settled 65 = .ok (.ishl, 1) := by decide +kernel
theorem d_MO_settled_66 : decode b_MO_settled 66 = .ok (.goto 4, 3) := by decide +kernel
theorem d_MO_settled_69 : decode b_MO_settled 69 = .ok (.iconst 0, 1) := by decide +kernel
theorem d_MO_settled_70 : decode b_MO_settled 70 = .ok (.ior, 1) := by decide +kernel
theorem d_MO_settled_71 : decode b_MO_settled 71 = .ok (.istore 4, 2) := by decide +kernel
theorem d_MO_settled_73 : decode b_MO_settled 73 = .ok (.iload_n 3, 1) := by decide +kernel
theorem d_MO_settled_74 : decode b_MO_settled 74 = .ok (.iload 6, 2) := by decide +kernel
theorem d_MO_settled_76 : decode b_MO_settled 76 = .ok (.ifCond .eq 7, 3) := by decide +kernel
theorem d_MO_settled_79 : decode b_MO_settled 79 = .ok (.iconst 1, 1) := by decide +kernel
theorem d_MO_settled_80 : decode b_MO_settled 80 = .ok (.goto 4, 3) := by decide +kernel
theorem d_MO_settled_83 : decode b_MO_settled 83 = .ok (.iconst 0, 1) := by decide +kernel
theorem d_MO_settled_84 : decode b_MO_settled 84 = .ok (.iadd, 1) := by decide +kernel
theorem d_MO_settled_85 : decode b_MO_settled 85 = .ok (.istore_n 3, 1) := by decide +kernel
theorem d_MO_settled_86 : decode b_MO_settled 86 = .ok (.iconst 0, 1) := by decide +kernel
theorem d_MO_settled_87 : decode b_MO_settled 87 = .ok (.istore 7, 2) := by decide +kernel
theorem d_MO_settled_89 : decode b_MO_settled 89 = .ok (.iload 7, 2) := by decide +kernel
theorem d_MO_settled_91 : decode b_MO_settled 91 = .ok (.iload_n 2, 1) := by decide +kernel
theorem d_MO_settled_92 : decode b_MO_settled 92 = .ok (.if_icmp .gt 50, 3) := by decide +kernel
theorem d_MO_settled_95 : decode b_MO_settled 95 = .ok (.aload_n 0, 1) := by decide +kernel
theorem d_MO_settled_96 : decode b_MO_settled 96 = .ok (.getfield 49, 3) := by decide +kernel
theorem d_MO_settled_99 : decode b_MO_settled 99 = .ok (.iload 7, 2) := by decide +kernel
theorem d_MO_settled_101 : decode b_MO_settled 101 = .ok (.iload 5, 2) := by decide +kernel
theorem d_MO_settled_103 : decode b_MO_settled 103 = .ok (.ifCond .ne 7, 3) := by decide +kernel
theorem d_MO_settled_106 : decode b_MO_settled 106 = .ok (.iconst 0, 1) := by decide +kernel
theorem d_MO_settled_107 : decode b_MO_settled 107 = .ok (.goto 10, 3) := by decide +kernel
theorem d_MO_settled_110 : decode b_MO_settled 110 = .ok (.aload_n 0, 1) := by decide +kernel
theorem d_MO_settled_111 : decode b_MO_settled 111 = .ok (.getfield 49, 3) := by decide +kernel
theorem d_MO_settled_114 : decode b_MO_settled 114 = .ok (.iload 7, 2) := by decide +kernel
theorem d_MO_settled_116 : decode b_MO_settled 116 = .ok (.iaload, 1) := by decide +kernel
theorem d_MO_settled_117 : decode b_MO_settled 117 = .ok (.iload 7, 2) := by decide +kernel
theorem d_MO_settled_119 : decode b_MO_settled 119 = .ok (.iload 5, 2) := by decide +kernel
theorem d_MO_settled_121 : decode b_MO_settled 121 = .ok (.ishr, 1) := by decide +kernel
theorem d_MO_settled_122 : decode b_MO_settled 122 = .ok (.iconst 1, 1) := by decide +kernel
theorem d_MO_settled_123 : decode b_MO_settled 123 = .ok (.iand, 1) := by decide +kernel
theorem d_MO_settled_124 : decode b_MO_settled 124 = .ok (.iconst 1, 1) := by decide +kernel
theorem d_MO_settled_125 : decode b_MO_settled 125 = .ok (.if_icmp .ne 8, 3) := by decide +kernel
theorem d_MO_settled_128 : decode b_MO_settled 128 = .ok (.iload 6, 2) := by decide +kernel
theorem d_MO_settled_130 : decode b_MO_settled 130 = .ok (.goto 4, 3) := by decide +kernel
theorem d_MO_settled_133 : decode b_MO_settled 133 = .ok (.iconst 0, 1) := by decide +kernel
theorem d_MO_settled_134 : decode b_MO_settled 134 = .ok (.iadd, 1) := by decide +kernel
theorem d_MO_settled_135 : decode b_MO_settled 135 = .ok (.iastore, 1) := by decide +kernel
theorem d_MO_settled_136 : decode b_MO_settled 136 = .ok (.iinc 7 1, 3) := by decide +kernel
theorem d_MO_settled_139 : decode b_MO_settled 139 = .ok (.goto (-50), 3) := by decide +kernel
theorem d_MO_settled_142 : decode b_MO_settled 142 = .ok (.iinc 5 1, 3) := by decide +kernel
theorem d_MO_settled_145 : decode b_MO_settled 145 = .ok (.goto (-108), 3) := by decide +kernel
theorem d_MO_settled_148 : decode b_MO_settled 148 = .ok (.aload_n 0, 1) := by decide +kernel
theorem d_MO_settled_149 : decode b_MO_settled 149 = .ok (.getfield 52, 3) := by decide +kernel
theorem d_MO_settled_152 : decode b_MO_settled 152 = .ok (.iconst 0, 1) := by decide +kernel
theorem d_MO_settled_153 : decode b_MO_settled 153 = .ok (.iconst 0, 1) := by decide +kernel
theorem d_MO_settled_154 : decode b_MO_settled 154 = .ok (.iastore, 1) := by decide +kernel
theorem d_MO_settled_155 : decode b_MO_settled 155 = .ok (.iconst 1, 1) := by decide +kernel
theorem d_MO_settled_156 : decode b_MO_settled 156 = .ok (.istore 5, 2) := by decide +kernel
theorem d_MO_settled_158 : decode b_MO_settled 158 = .ok (.iload 5, 2) := by decide +kernel
theorem d_MO_settled_160 : decode b_MO_settled 160 = .ok (.iload_n 2, 1) := by decide +kernel
theorem d_MO_settled_161 : decode b_MO_settled 161 = .ok (.if_icmp .gt 103, 3) := by decide +kernel
theorem d_MO_settled_164 : decode b_MO_settled 164 = .ok (.aload_n 0, 1) := by decide +kernel
theorem d_MO_settled_165 : decode b_MO_settled 165 = .ok (.getfield 52, 3) := by decide +kernel
theorem d_MO_settled_168 : decode b_MO_settled 168 = .ok (.iload 5, 2) := by decide +kernel
theorem d_MO_settled_170 : decode b_MO_settled 170 = .ok (.bipush (-9), 2) := by decide +kernel
theorem d_MO_settled_172 : decode b_MO_settled 172 = .ok (.iastore, 1) := by decide +kernel
theorem d_MO_settled_173 : decode b_MO_settled 173 = .ok (.iload 5, 2) := by decide +kernel
theorem d_MO_settled_175 : decode b_MO_settled 175 = .ok (.istore 6, 2) := by decide +kernel
theorem d_MO_settled_177 : decode b_MO_settled 177 = .ok (.iload 6, 2) := by decide +kernel
theorem d_MO_settled_179 : decode b_MO_settled 179 = .ok (.ifCond .le 79, 3) := by decide +kernel
theorem d_MO_settled_182 : decode b_MO_settled 182 = .ok (.aload_n 0, 1) := by decide +kernel
theorem d_MO_settled_183 : decode b_MO_settled 183 = .ok (.getfield 52, 3) := by decide +kernel
theorem d_MO_settled_186 : decode b_MO_settled 186 = .ok (.iload 5, 2) := by decide +kernel
theorem d_MO_settled_188 : decode b_MO_settled 188 = .ok (.iload 6, 2) := by decide +kernel
theorem d_MO_settled_190 : decode b_MO_settled 190 = .ok (.isub, 1) := by decide +kernel
theorem d_MO_settled_191 : decode b_MO_settled 191 = .ok (.iaload, 1) := by decide +kernel
theorem d_MO_settled_192 : decode b_MO_settled 192 = .ok (.istore 7, 2) := by decide +kernel
theorem d_MO_settled_194 : decode b_MO_settled 194 = .ok (.aload_n 0, 1) := by decide +kernel
theorem d_MO_settled_195 : decode b_MO_settled 195 = .ok (.getfield 52, 3) := by decide +kernel
theorem d_MO_settled_198 : decode b_MO_settled 198 = .ok (.iload 5, 2) := by decide +kernel
theorem d_MO_settled_200 : decode b_MO_settled 200 = .ok (.aload_n 0, 1) := by decide +kernel
theorem d_MO_settled_201 : decode b_MO_settled 201 = .ok (.getfield 49, 3) := by decide +kernel
theorem d_MO_settled_204 : decode b_MO_settled 204 = .ok (.iload 6, 2) := by decide +kernel
theorem d_MO_settled_206 : decode b_MO_settled 206 = .ok (.iaload, 1) := by decide +kernel
theorem d_MO_settled_207 : decode b_MO_settled 207 = .ok (.ifCond .ne 31, 3) := by decide +kernel
theorem d_MO_settled_210 : decode b_MO_settled 210 = .ok (.iload 7, 2) := by decide +kernel
theorem d_MO_settled_212 : decode b_MO_settled 212 = .ok (.bipush (-9), 2) := by decide +kernel
theorem d_MO_settled_214 : decode b_MO_settled 214 = .ok (.if_icmp .eq 24, 3) := by decide +kernel
theorem d_MO_settled_217 : decode b_MO_settled 217 = .ok (.iload 7, 2) := by decide +kernel
theorem d_MO_settled_219 : decode b_MO_settled 219 = .ok (.iconst 1, 1) := by decide +kernel
theorem d_MO_settled_220 : decode b_MO_settled 220 = .ok (.iadd, 1) := by decide +kernel
theorem d_MO_settled_221 : decode b_MO_settled 221 = .ok (.aload_n 0, 1) := by decide +kernel
theorem d_MO_settled_222 : decode b_MO_settled 222 = .ok (.getfield 52, 3) := by decide +kernel
theorem d_MO_settled_225 : decode b_MO_settled 225 = .ok (.iload 5, 2) := by decide +kernel
theorem d_MO_settled_227 : decode b_MO_settled 227 = .ok (.iaload, 1) := by decide +kernel
theorem d_MO_settled_228 : decode b_MO_settled 228 = .ok (.if_icmp .le 10, 3) := by decide +kernel
theorem d_MO_settled_231 : decode b_MO_settled 231 = .ok (.iload 7, 2) := by decide +kernel
theorem d_MO_settled_233 : decode b_MO_settled 233 = .ok (.iconst 1, 1) := by decide +kernel
theorem d_MO_settled_234 : decode b_MO_settled 234 = .ok (.iadd, 1) := by decide +kernel
theorem d_MO_settled_235 : decode b_MO_settled 235 = .ok (.goto 10, 3) := by decide +kernel
theorem d_MO_settled_238 : decode b_MO_settled 238 = .ok (.aload_n 0, 1) := by decide +kernel
theorem d_MO_settled_239 : decode b_MO_settled 239 = .ok (.getfield 52, 3) := by decide +kernel
theorem d_MO_settled_242 : decode b_MO_settled 242 = .ok (.iload 5, 2) := by decide +kernel
theorem d_MO_settled_244 : decode b_MO_settled 244 = .ok (.iaload, 1) := by decide +kernel
theorem d_MO_settled_245 : decode b_MO_settled 245 = .ok (.iastore, 1) := by decide +kernel
theorem d_MO_settled_246 : decode b_MO_settled 246 = .ok (.iload 6, 2) := by decide +kernel
theorem d_MO_settled_248 : decode b_MO_settled 248 = .ok (.iconst 1, 1) := by decide +kernel
theorem d_MO_settled_249 : decode b_MO_settled 249 = .ok (.isub, 1) := by decide +kernel
theorem d_MO_settled_250 : decode b_MO_settled 250 = .ok (.iload 5, 2) := by decide +kernel
theorem d_MO_settled_252 : decode b_MO_settled 252 = .ok (.iand, 1) := by decide +kernel
theorem d_MO_settled_253 : decode b_MO_settled 253 = .ok (.istore 6, 2) := by decide +kernel
theorem d_MO_settled_255 : decode b_MO_settled 255 = .ok (.goto (-78), 3) := by decide +kernel
theorem d_MO_settled_258 : decode b_MO_settled 258 = .ok (.iinc 5 1, 3) := by decide +kernel
theorem d_MO_settled_261 : decode b_MO_settled 261 = .ok (.goto (-103), 3) := by decide +kernel
theorem d_MO_settled_264 : decode b_MO_settled 264 = .ok (.iload_n 3, 1) := by decide +kernel
theorem d_MO_settled_265 : decode b_MO_settled 265 = .ok (.aload_n 0, 1) := by decide +kernel
theorem d_MO_settled_266 : decode b_MO_settled 266 = .ok (.getfield 52, 3) := by decide +kernel
theorem d_MO_settled_269 : decode b_MO_settled 269 = .ok (.iload 4, 2) := by decide +kernel
theorem d_MO_settled_271 : decode b_MO_settled 271 = .ok (.iaload, 1) := by decide +kernel
theorem d_MO_settled_272 : decode b_MO_settled 272 = .ok (.isub, 1) := by decide +kernel
theorem d_MO_settled_273 : decode b_MO_settled 273 = .ok (.ireturn, 1) := by decide +kernel
theorem d_MO_findBest_0 : decode b_MO_findBest 0 = .ok (.aload_n 0, 1) := by decide +kernel
theorem d_MO_findBest_1 : decode b_MO_findBest 1 = .ok (.bipush (-9), 2) := by decide +kernel
theorem d_MO_findBest_3 : decode b_MO_findBest 3 = .ok (.putfield 150, 3) := by decide +kernel
theorem d_MO_findBest_6 : decode b_MO_findBest 6 = .ok (.iconst 1, 1) := by decide +kernel
theorem d_MO_findBest_7 : decode b_MO_findBest 7 = .ok (.istore_n 3, 1) := by decide +kernel
theorem d_MO_findBest_8 : decode b_MO_findBest 8 = .ok (.iload_n 3, 1) := by decide +kernel
theorem d_MO_findBest_9 : decode b_MO_findBest 9 = .ok (.aload_n 0, 1) := by decide +kernel
theorem d_MO_findBest_10 : decode b_MO_findBest 10 = .ok (.getfield 22, 3) := by decide +kernel
theorem d_MO_findBest_13 : decode b_MO_findBest 13 = .ok (.iload_n 1, 1) := by decide +kernel
theorem d_MO_findBest_14 : decode b_MO_findBest 14 = .ok (.iaload, 1) := by decide +kernel
theorem d_MO_findBest_15 : decode b_MO_findBest 15 = .ok (.if_icmp .gt 51, 3) := by decide +kernel
theorem d_MO_findBest_18 : decode b_MO_findBest 18 = .ok (.aload_n 0, 1) := by decide +kernel
theorem d_MO_findBest_19 : decode b_MO_findBest 19 = .ok (.aload_n 0, 1) := by decide +kernel
theorem d_MO_findBest_20 : decode b_MO_findBest 20 = .ok (.iload_n 1, 1) := by decide +kernel
theorem d_MO_findBest_21 : decode b_MO_findBest 21 = .ok (.iload_n 3, 1) := by decide +kernel
theorem d_MO_findBest_22 : decode b_MO_findBest 22 = .ok (.invokevirtual 119, 3) := by decide +kernel
theorem d_MO_findBest_25 : decode b_MO_findBest 25 = .ok (.iload_n 2, 1) := by decide +kernel
theorem d_MO_findBest_26 : decode b_MO_findBest 26 = .ok (.invokevirtual 136, 3) := by decide +kernel
theorem d_MO_findBest_29 : decode b_MO_findBest 29 = .ok (.istore 4, 2) := by decide +kernel
theorem d_MO_findBest_31 : decode b_MO_findBest 31 = .ok (.aload_n 0, 1) := by decide +kernel
theorem d_MO_findBest_32 : decode b_MO_findBest 32 = .ok (.getfield 150, 3) := by decide +kernel
theorem d_MO_findBest_35 : decode b_MO_findBest 35 = .ok (.bipush (-9), 2) := by decide +kernel
theorem d_MO_findBest_37 : decode b_MO_findBest 37 = .ok (.if_icmp .eq 12, 3) := by decide +kernel
theorem d_MO_findBest_40 : decode b_MO_findBest 40 = .ok (.iload 4, 2) := by decide +kernel
theorem d_MO_findBest_42 : decode b_MO_findBest 42 = .ok (.aload_n 0, 1) := by decide +kernel
theorem d_MO_findBest_43 : decode b_MO_findBest 43 = .ok (.getfield 153, 3) := by decide +kernel
theorem d_MO_findBest_46 : decode b_MO_findBest 46 = .ok (.if_icmp .ge 14, 3) := by decide +kernel
theorem d_MO_findBest_49 : decode b_MO_findBest 49 = .ok (.aload_n 0, 1) := by decide +kernel
theorem d_MO_findBest_50 : decode b_MO_findBest 50 = .ok (.iload_n 3, 1) := by decide +kernel
theorem d_MO_findBest_51 : decode b_MO_findBest 51 = .ok (.putfield 150, 3) := by decide +kernel
theorem d_MO_findBest_54 : decode b_MO_findBest 54 = .ok (.aload_n 0, 1) := by decide +kernel
theorem d_MO_findBest_55 : decode b_MO_findBest 55 = .ok (.iload 4, 2) := by decide +kernel
theorem d_MO_findBest_57 : decode b_MO_findBest 57 = .ok (.putfield 153, 3) := by decide +kernel
theorem d_MO_findBest_60 : decode b_MO_findBest 60 = .ok (.iinc 3 1, 3) := by decide +kernel
theorem d_MO_findBest_63 : decode b_MO_findBest 63 = .ok (.goto (-55), 3) := by decide +kernel
theorem d_MO_findBest_66 : decode b_MO_findBest 66 = .ok (.return_, 1) := by decide +kernel
theorem d_MO_best_0 : decode b_MO_best 0 = .ok (.aload_n 0, 1) := by decide +kernel
theorem d_MO_best_1 : decode b_MO_best 1 = .ok (.iload_n 1, 1) := by decide +kernel
theorem d_MO_best_2 : decode b_MO_best 2 = .ok (.invokevirtual 116, 3) := by decide +kernel
theorem d_MO_best_5 : decode b_MO_best 5 = .ok (.ifCond .ne 5, 3) := by decide +kernel
theorem d_MO_best_8 : decode b_MO_best 8 = .ok (.iconst (-1), 1) := by decide +kernel
theorem d_MO_best_9 : decode b_MO_best 9 = .ok (.ireturn, 1) := by decide +kernel
theorem d_MO_best_10 : decode b_MO_best 10 = .ok (.iload_n 2, 1) := by decide +kernel
theorem d_MO_best_11 : decode b_MO_best 11 = .ok (.iconst 1, 1) := by decide +kernel
theorem d_MO_best_12 : decode b_MO_best 12 = .ok (.sipush 200, 3) := by decide +kernel
theorem d_MO_best_15 : decode b_MO_best 15 = .ok (.invokestatic 76, 3) := by decide +kernel
theorem d_MO_best_18 : decode b_MO_best 18 = .ok (.ifCond .eq 12, 3) := by decide +kernel
theorem d_MO_best_21 : decode b_MO_best 21 = .ok (.iload_n 3, 1) := by decide +kernel
theorem d_MO_best_22 : decode b_MO_best 22 = .ok (.iconst 0, 1) := by decide +kernel
theorem d_MO_best_23 : decode b_MO_best 23 = .ok (.iconst 1, 1) := by decide +kernel
theorem d_MO_best_24 : decode b_MO_best 24 = .ok (.invokestatic 76, 3) := by decide +kernel
theorem d_MO_best_27 : decode b_MO_best 27 = .ok (.ifCond .ne 6, 3) := by decide +kernel
theorem d_MO_best_30 : decode b_MO_best 30 = .ok (.bipush (-2), 2) := by decide +kernel
theorem d_MO_best_32 : decode b_MO_best 32 = .ok (.ireturn, 1) := by decide +kernel
theorem d_MO_best_33 : decode b_MO_best 33 = .ok (.aload_n 0, 1) := by decide +kernel
theorem d_MO_best_34 : decode b_MO_best 34 = .ok (.iload_n 1, 1) := by decide +kernel
theorem d_MO_best_35 : decode b_MO_best 35 = .ok (.iload_n 2, 1) := by decide +kernel
theorem d_MO_best_36 : decode b_MO_best 36 = .ok (.invokevirtual 156, 3) := by decide +kernel
theorem d_MO_best_39 : decode b_MO_best 39 = .ok (.iload_n 3, 1) := by decide +kernel
theorem d_MO_best_40 : decode b_MO_best 40 = .ok (.ifCond .ne 10, 3) := by decide +kernel
theorem d_MO_best_43 : decode b_MO_best 43 = .ok (.aload_n 0, 1) := by decide +kernel
theorem d_MO_best_44 : decode b_MO_best 44 = .ok (.getfield 150, 3) := by decide +kernel
theorem d_MO_best_47 : decode b_MO_best 47 = .ok (.goto 7, 3) := by decide +kernel
theorem d_MO_best_50 : decode b_MO_best 50 = .ok (.aload_n 0, 1) := by decide +kernel
theorem d_MO_best_51 : decode b_MO_best 51 = .ok (.getfield 153, 3) := by decide +kernel
theorem d_MO_best_54 : decode b_MO_best 54 = .ok (.ireturn, 1) := by decide +kernel
theorem d_MO_spot_0 : decode b_MO_spot 0 = .ok (.bipush 41, 2) := by decide +kernel
theorem d_MO_spot_2 : decode b_MO_spot 2 = .ok (.iload_n 0, 1) := by decide +kernel
theorem d_MO_spot_3 : decode b_MO_spot 3 = .ok (.imul, 1) := by decide +kernel
theorem d_MO_spot_4 : decode b_MO_spot 4 = .ok (.iload_n 1, 1) := by decide +kernel
theorem d_MO_spot_5 : decode b_MO_spot 5 = .ok (.iadd, 1) := by decide +kernel
theorem d_MO_spot_6 : decode b_MO_spot 6 = .ok (.ireturn, 1) := by decide +kernel
theorem d_MO_layTurn_0 : decode b_MO_layTurn 0 = .ok (.iload_n 1, 1) := by decide +kernel
theorem d_MO_layTurn_1 : decode b_MO_layTurn 1 = .ok (.iload_n 2, 1) := by decide +kernel
theorem d_MO_layTurn_2 : decode b_MO_layTurn 2 = .ok (.invokestatic 160, 3) := by decide +kernel
theorem d_MO_layTurn_5 : decode b_MO_layTurn 5 = .ok (.istore 6, 2) := by decide +kernel
theorem d_MO_layTurn_7 : decode b_MO_layTurn 7 = .ok (.aload_n 0, 1) := by decide +kernel
theorem d_MO_layTurn_8 : decode b_MO_layTurn 8 = .ok (.getfield 55, 3) := by decide +kernel
theorem d_MO_layTurn_11 : decode b_MO_layTurn 11 = .ok (.iload 6, 2) := by decide +kernel
theorem d_MO_layTurn_13 : decode b_MO_layTurn 13 = .ok (.iload_n 1, 1) := by decide +kernel
theorem d_MO_layTurn_14 : decode b_MO_layTurn 14 = .ok (.ifCond .ne 8, 3) := by decide +kernel
theorem d_MO_layTurn_17 : decode b_MO_layTurn 17 = .ok (.ldc 163, 2) := by decide +kernel
theorem d_MO_layTurn_19 : decode b_MO_layTurn 19 = .ok (.goto 5, 3) := by decide +kernel
theorem d_MO_layTurn_22 : decode b_MO_layTurn 22 = .ok (.iload 5, 2) := by decide +kernel
theorem d_MO_layTurn_24 : decode b_MO_layTurn 24 = .ok (.iastore, 1) := by decide +kernel
theorem d_MO_layTurn_25 : decode b_MO_layTurn 25 = .ok (.aload_n 0, 1) := by decide +kernel
theorem d_MO_layTurn_26 : decode b_MO_layTurn 26 = .ok (.getfield 58, 3) := by decide +kernel
theorem d_MO_layTurn_29 : decode b_MO_layTurn 29 = .ok (.iload 6, 2) := by decide +kernel
theorem d_MO_layTurn_31 : decode b_MO_layTurn 31 = .ok (.iconst 0, 1) := by decide +kernel
theorem d_MO_layTurn_32 : decode b_MO_layTurn 32 = .ok (.iastore, 1) := by decide +kernel
theorem d_MO_layTurn_33 : decode b_MO_layTurn 33 = .ok (.aload_n 0, 1) := by decide +kernel
theorem d_MO_layTurn_34 : decode b_MO_layTurn 34 = .ok (.getfield 61, 3) := by decide +kernel
theorem d_MO_layTurn_37 : decode b_MO_layTurn 37 = .ok (.iload 6, 2) := by decide +kernel
theorem d_MO_layTurn_39 : decode b_MO_layTurn 39 = .ok (.iconst 0, 1) := by decide +kernel
theorem d_MO_layTurn_40 : decode b_MO_layTurn 40 = .ok (.iastore, 1) := by decide +kernel
theorem d_MO_layTurn_41 : decode b_MO_layTurn 41 = .ok (.iconst 1, 1) := by decide +kernel
theorem d_MO_layTurn_42 : decode b_MO_layTurn 42 = .ok (.istore 7, 2) := by decide +kernel
theorem d_MO_layTurn_44 : decode b_MO_layTurn 44 = .ok (.iload 7, 2) := by decide +kernel
theorem d_MO_layTurn_46 : decode b_MO_layTurn 46 = .ok (.aload_n 0, 1) := by decide +kernel
theorem d_MO_layTurn_47 : decode b_MO_layTurn 47 = .ok (.getfield 22, 3) := by decide +kernel
theorem d_MO_layTurn_50 : decode b_MO_layTurn 50 = .ok (.iload_n 3, 1) := by decide +kernel
theorem d_MO_layTurn_51 : decode b_MO_layTurn 51 = .ok (.iaload, 1) := by decide +kernel
theorem d_MO_layTurn_52 : decode b_MO_layTurn 52 = .ok (.if_icmp .gt 126, 3) := by decide +kernel
theorem d_MO_layTurn_55 : decode b_MO_layTurn 55 = .ok (.iload_n 1, 1) := by decide +kernel
theorem d_MO_layTurn_56 : decode b_MO_layTurn 56 = .ok (.iconst 1, 1) := by decide +kernel
theorem d_MO_layTurn_57 : decode b_MO_layTurn 57 = .ok (.iadd, 1) := by decide +kernel
theorem d_MO_layTurn_58 : decode b_MO_layTurn 58 = .ok (.iload 7, 2) := by decide +kernel
theorem d_MO_layTurn_60 : decode b_MO_layTurn 60 = .ok (.invokestatic 160, 3) := by decide +kernel
theorem d_MO_layTurn_63 : decode b_MO_layTurn 63 = .ok (.istore 8, 2) := by decide +kernel
theorem d_MO_layTurn_65 : decode b_MO_layTurn 65 = .ok (.aload_n 0, 1) := by decide +kernel
theorem d_MO_layTurn_66 : decode b_MO_layTurn 66 = .ok (.getfield 58, 3) := by decide +kernel
theorem d_MO_layTurn_69 : decode b_MO_layTurn 69 = .ok (.iload 8, 2) := by decide +kernel
theorem d_MO_layTurn_71 : decode b_MO_layTurn 71 = .ok (.iaload, 1) := by decide +kernel
theorem d_MO_layTurn_72 : decode b_MO_layTurn 72 = .ok (.istore 9, 2) := by decide +kernel
theorem d_MO_layTurn_74 : decode b_MO_layTurn 74 = .ok (.aload_n 0, 1) := by decide +kernel
theorem d_MO_layTurn_75 : decode b_MO_layTurn 75 = .ok (.getfield 55, 3) := by decide +kernel
theorem d_MO_layTurn_78 : decode b_MO_layTurn 78 = .ok (.iload 8, 2) := by decide +kernel
theorem d_MO_layTurn_80 : decode b_MO_layTurn 80 = .ok (.iaload, 1) := by decide +kernel
theorem d_MO_layTurn_81 : decode b_MO_layTurn 81 = .ok (.istore 10, 2) := by decide +kernel
theorem d_MO_layTurn_83 : decode b_MO_layTurn 83 = .ok (.iload_n 1, 1) := by decide +kernel
theorem d_MO_layTurn_84 : decode b_MO_layTurn 84 = .ok (.ifCond .le 49, 3) := by decide +kernel
theorem d_MO_layTurn_87 : decode b_MO_layTurn 87 = .ok (.iload 9, 2) := by decide +kernel
theorem d_MO_layTurn_89 : decode b_MO_layTurn 89 = .ok (.aload_n 0, 1) := by decide +kernel
theorem d_MO_layTurn_90 : decode b_MO_layTurn 90 = .ok (.aload_n 0, 1) := by decide +kernel
theorem d_MO_layTurn_91 : decode b_MO_layTurn 91 = .ok (.iload_n 3, 1) := by decide +kernel
theorem d_MO_layTurn_92 : decode b_MO_layTurn 92 = .ok (.iload 7, 2) := by decide +kernel
theorem d_MO_layTurn_94 : decode b_MO_layTurn 94 = .ok (.invokevirtual 119, 3) := by decide +kernel
theorem d_MO_layTurn_97 : decode b_MO_layTurn 97 = .ok (.aload_n 0, 1) := by decide +kernel
theorem d_MO_layTurn_98 : decode b_MO_layTurn 98 = .ok (.iload 4, 2) := by decide +kernel
theorem d_MO_layTurn_100 : decode b_MO_layTurn 100 = .ok (.iload_n 2, 1) := by decide +kernel
theorem d_MO_layTurn_101 : decode b_MO_layTurn 101 = .ok (.invokevirtual 119, 3) := by decide +kernel
theorem d_MO_layTurn_104 : decode b_MO_layTurn 104 = .ok (.invokevirtual 136, 3) := by decide +kernel
theorem d_MO_layTurn_107 : decode b_MO_layTurn 107 = .ok (.iadd, 1) := by decide +kernel
theorem d_MO_layTurn_108 : decode b_MO_layTurn 108 = .ok (.istore 9, 2) := by decide +kernel
theorem d_MO_layTurn_110 : decode b_MO_layTurn 110 = .ok (.iload 10, 2) := by decide +kernel
theorem d_MO_layTurn_112 : decode b_MO_layTurn 112 = .ok (.aload_n 0, 1) := by decide +kernel
theorem d_MO_layTurn_113 : decode b_MO_layTurn 113 = .ok (.aload_n 0, 1) := by decide +kernel
theorem d_MO_layTurn_114 : decode b_MO_layTurn 114 = .ok (.iload 4, 2) := by decide +kernel
theorem d_MO_layTurn_116 : decode b_MO_layTurn 116 = .ok (.iload_n 2, 1) := by decide +kernel
theorem d_MO_layTurn_117 : decode b_MO_layTurn 117 = .ok (.invokevirtual 119, 3) := by decide +kernel
theorem d_MO_layTurn_120 : decode b_MO_layTurn 120 = .ok (.aload_n 0, 1) := by decide +kernel
theorem d_MO_layTurn_121 : decode b_MO_layTurn 121 = .ok (.iload_n 3, 1) := by decide +kernel
theorem d_MO_layTurn_122 : decode b_MO_layTurn 122 = .ok (.iload 7, 2) := by decide +kernel
theorem d_MO_layTurn_124 : decode b_MO_layTurn 124 = .ok (.invokevirtual 119, 3) := by decide +kernel
theorem d_MO_layTurn_127 : decode b_MO_layTurn 127 = .ok (.invokevirtual 136, 3) := by decide +kernel
theorem d_MO_layTurn_130 : decode b_MO_layTurn 130 = .ok (.iadd, 1) := by decide +kernel
theorem d_MO_layTurn_131 : decode b_MO_layTurn 131 = .ok (.istore 10, 2) := by decide +kernel
theorem d_MO_layTurn_133 : decode b_MO_layTurn 133 = .ok (.iload 9, 2) := by decide +kernel
theorem d_MO_layTurn_135 : decode b_MO_layTurn 135 = .ok (.aload_n 0, 1) := by decide +kernel
theorem d_MO_layTurn_136 : decode b_MO_layTurn 136 = .ok (.getfield 55, 3) := by decide +kernel
theorem d_MO_layTurn_139 : decode b_MO_layTurn 139 = .ok (.iload 6, 2) := by decide +kernel
theorem d_MO_layTurn_141 : decode b_MO_layTurn 141 = .ok (.iaload, 1) := by decide +kernel
theorem d_MO_layTurn_142 : decode b_MO_layTurn 142 = .ok (.if_icmp .ge 30, 3) := by decide +kernel
theorem d_MO_layTurn_145 : decode b_MO_layTurn 145 = .ok (.aload_n 0, 1) := by decide +kernel
theorem d_MO_layTurn_146 : decode b_MO_layTurn 146 = .ok (.getfield 55, 3) := by decide +kernel
theorem d_MO_layTurn_149 : decode b_MO_layTurn 149 = .ok (.iload 6, 2) := by decide +kernel
theorem d_MO_layTurn_151 : decode b_MO_layTurn 151 = .ok (.iload 9, 2) := by decide +kernel
theorem d_MO_layTurn_153 : decode b_MO_layTurn 153 = .ok (.iastore, 1) := by decide +kernel
theorem d_MO_layTurn_154 : decode b_MO_layTurn 154 = .ok (.aload_n 0, 1) := by decide +kernel
theorem d_MO_layTurn_155 : decode b_MO_layTurn 155 = .ok (.getfield 58, 3) := by decide +kernel
theorem d_MO_layTurn_158 : decode b_MO_layTurn 158 = .ok (.iload 6, 2) := by decide +kernel
theorem d_MO_layTurn_160 : decode b_MO_layTurn 160 = .ok (.iload 10, 2) := by decide +kernel
theorem d_MO_layTurn_162 : decode b_MO_layTurn 162 = .ok (.iastore, 1) := by decide +kernel
theorem d_MO_layTurn_163 : decode b_MO_layTurn 163 = .ok (.aload_n 0, 1) := by decide +kernel
theorem d_MO_layTurn_164 : decode b_MO_layTurn 164 = .ok (.getfield 61, 3) := by decide +kernel
theorem d_MO_layTurn_167 : decode b_MO_layTurn 167 = .ok (.iload 6, 2) := by decide +kernel
theorem d_MO_layTurn_169 : decode b_MO_layTurn 169 = .ok (.iload 7, 2) := by decide +kernel
theorem d_MO_layTurn_171 : decode b_MO_layTurn 171 = .ok (.iastore, 1) := by decide +kernel
theorem d_MO_layTurn_172 : decode b_MO_layTurn 172 = .ok (.iinc 7 1, 3) := by decide +kernel
theorem d_MO_layTurn_175 : decode b_MO_layTurn 175 = .ok (.goto (-131), 3) := by decide +kernel
theorem d_MO_layTurn_178 : decode b_MO_layTurn 178 = .ok (.return_, 1) := by decide +kernel
theorem d_MO_layCourse_0 : decode b_MO_layCourse 0 = .ok (.iconst 0, 1) := by decide +kernel
theorem d_MO_layCourse_1 : decode b_MO_layCourse 1 = .ok (.istore 5, 2) := by decide +kernel
theorem d_MO_layCourse_3 : decode b_MO_layCourse 3 = .ok (.iload 5, 2) := by decide +kernel
theorem d_MO_layCourse_5 : decode b_MO_layCourse 5 = .ok (.bipush 40, 2) := by decide +kernel
theorem d_MO_layCourse_7 : decode b_MO_layCourse 7 = .ok (.if_icmp .gt 45, 3) := by decide +kernel
theorem d_MO_layCourse_10 : decode b_MO_layCourse 10 = .ok (.aload_n 0, 1) := by decide +kernel
theorem d_MO_layCourse_11 : decode b_MO_layCourse 11 = .ok (.getfield 55, 3) := by decide +kernel
theorem d_MO_layCourse_14 : decode b_MO_layCourse 14 = .ok (.iload_n 3, 1) := by decide +kernel
theorem d_MO_layCourse_15 : decode b_MO_layCourse 15 = .ok (.iload 5, 2) := by decide +kernel
theorem d_MO_layCourse_17 : decode b_MO_layCourse 17 = .ok (.invokestatic 160, 3) := by decide +kernel
theorem d_MO_layCourse_20 : decode b_MO_layCourse 20 = .ok (.iconst 0, 1) := by decide +kernel
theorem d_MO_layCourse_21 : decode b_MO_layCourse 21 = .ok (.iastore, 1) := by decide +kernel
theorem d_MO_layCourse_22 : decode b_MO_layCourse 22 = .ok (.aload_n 0, 1) := by decide +kernel
theorem d_MO_layCourse_23 : decode b_MO_layCourse 23 = .ok (.getfield 58, 3) := by decide +kernel
theorem d_MO_layCourse_26 : decode b_MO_layCourse 26 = .ok (.iload_n 3, 1) := by decide +kernel
theorem d_MO_layCourse_27 : decode b_MO_layCourse 27 = .ok (.iload 5, 2) := by decide +kernel
theorem d_MO_layCourse_29 : decode b_MO_layCourse 29 = .ok (.invokestatic 160, 3) := by decide +kernel
theorem d_MO_layCourse_32 : decode b_MO_layCourse 32 = .ok (.iconst 0, 1) := by decide +kernel
theorem d_MO_layCourse_33 : decode b_MO_layCourse 33 = .ok (.iastore, 1) := by decide +kernel
theorem d_MO_layCourse_34 : decode b_MO_layCourse 34 = .ok (.aload_n 0, 1) := by decide +kernel
theorem d_MO_layCourse_35 : decode b_MO_layCourse 35 = .ok (.getfield 61, 3) := by decide +kernel
theorem d_MO_layCourse_38 : decode b_MO_layCourse 38 = .ok (.iload_n 3, 1) := by decide +kernel
theorem d_MO_layCourse_39 : decode b_MO_layCourse 39 = .ok (.iload 5, 2) := by decide +kernel
theorem d_MO_layCourse_41 : decode b_MO_layCourse 41 = .ok (.invokestatic 160, 3) := by decide +kernel
theorem d_MO_layCourse_44 : decode b_MO_layCourse 44 = .ok (.iconst 0, 1) := by decide +kernel
theorem d_MO_layCourse_45 : decode b_MO_layCourse 45 = .ok (.iastore, 1) := by decide +kernel
theorem d_MO_layCourse_46 : decode b_MO_layCourse 46 = .ok (.iinc 5 1, 3) := by decide +kernel
theorem d_MO_layCourse_49 : decode b_MO_layCourse 49 = .ok (.goto (-46), 3) := by decide +kernel
theorem d_MO_layCourse_52 : decode b_MO_layCourse 52 = .ok (.iload_n 3, 1) := by decide +kernel
theorem d_MO_layCourse_53 : decode b_MO_layCourse 53 = .ok (.iconst 1, 1) := by decide +kernel
theorem d_MO_layCourse_54 : decode b_MO_layCourse 54 = .ok (.isub, 1) := by decide +kernel
theorem d_MO_layCourse_55 : decode b_MO_layCourse 55 = .ok (.istore 5, 2) := by decide +kernel
theorem d_MO_layCourse_57 : decode b_MO_layCourse 57 = .ok (.iload 5, 2) := by decide +kernel
theorem d_MO_layCourse_59 : decode b_MO_layCourse 59 = .ok (.ifCond .lt 90, 3) := by decide +kernel
theorem d_MO_layCourse_62 : decode b_MO_layCourse 62 = .ok (.iload 5, 2) := by decide +kernel
theorem d_MO_layCourse_64 : decode b_MO_layCourse 64 = .ok (.iconst 2, 1) := by decide +kernel
theorem d_MO_layCourse_65 : decode b_MO_layCourse 65 = .ok (.irem, 1) := by decide +kernel
theorem d_MO_layCourse_66 : decode b_MO_layCourse 66 = .ok (.ifCond .ne 7, 3) := by decide +kernel
theorem d_MO_layCourse_69 : decode b_MO_layCourse 69 = .ok (.iload_n 1, 1) := by decide +kernel
theorem d_MO_layCourse_70 : decode b_MO_layCourse 70 = .ok (.goto 4, 3) := by decide +kernel
theorem d_MO_layCourse_73 : decode b_MO_layCourse 73 = .ok (.iload_n 2, 1) := by decide +kernel
theorem d_MO_layCourse_74 : decode b_MO_layCourse 74 = .ok (.istore 6, 2) := by decide +kernel
theorem d_MO_layCourse_76 : decode b_MO_layCourse 76 = .ok (.iload 5, 2) := by decide +kernel
theorem d_MO_layCourse_78 : decode b_MO_layCourse 78 = .ok (.iconst 2, 1) := by decide +kernel
theorem d_MO_layCourse_79 : decode b_MO_layCourse 79 = .ok (.irem, 1) := by decide +kernel
theorem d_MO_layCourse_80 : decode b_MO_layCourse 80 = .ok (.ifCond .ne 7, 3) := by decide +kernel
theorem d_MO_layCourse_83 : decode b_MO_layCourse 83 = .ok (.iload_n 2, 1) := by decide +kernel
theorem d_MO_layCourse_84 : decode b_MO_layCourse 84 = .ok (.goto 4, 3) := by decide +kernel
theorem d_MO_layCourse_87 : decode b_MO_layCourse 87 = .ok (.iload_n 1, 1) := by decide +kernel
theorem d_MO_layCourse_88 : decode b_MO_layCourse 88 = .ok (.istore 7, 2) := by decide +kernel
theorem d_MO_layCourse_90 : decode b_MO_layCourse 90 = .ok (.iload 5, 2) := by decide +kernel
theorem d_MO_layCourse_92 : decode b_MO_layCourse 92 = .ok (.ifCond .ne 7, 3) := by decide +kernel
theorem d_MO_layCourse_95 : decode b_MO_layCourse 95 = .ok (.iconst 0, 1) := by decide +kernel
theorem d_MO_layCourse_96 : decode b_MO_layCourse 96 = .ok (.goto 4, 3) := by decide +kernel
theorem d_MO_layCourse_99 : decode b_MO_layCourse 99 = .ok (.iconst 1, 1) := by decide +kernel
theorem d_MO_layCourse_100 : decode b_MO_layCourse 100 = .ok (.istore 8, 2) := by decide +kernel
theorem d_MO_layCourse_102 : decode b_MO_layCourse 102 = .ok (.iload 8, 2) := by decide +kernel
theorem d_MO_layCourse_104 : decode b_MO_layCourse 104 = .ok (.iload 5, 2) := by decide +kernel
theorem d_MO_layCourse_106 : decode b_MO_layCourse 106 = .ok (.ifCond .ne 7, 3) := by decide +kernel
theorem d_MO_layCourse_109 : decode b_MO_layCourse 109 = .ok (.iconst 0, 1) := by decide +kernel
theorem d_MO_layCourse_110 : decode b_MO_layCourse 110 = .ok (.goto 10, 3) := by decide +kernel
theorem d_MO_layCourse_113 : decode b_MO_layCourse 113 = .ok (.aload_n 0, 1) := by decide +kernel
theorem d_MO_layCourse_114 : decode b_MO_layCourse 114 = .ok (.getfield 22, 3) := by decide +kernel
theorem d_MO_layCourse_117 : decode b_MO_layCourse 117 = .ok (.iload 7, 2) := by decide +kernel
theorem d_MO_layCourse_119 : decode b_MO_layCourse 119 = .ok (.iaload, 1) := by decide +kernel
theorem d_MO_layCourse_120 : decode b_MO_layCourse 120 = .ok (.if_icmp .gt 23, 3) := by decide +kernel
theorem d_MO_layCourse_123 : decode b_MO_layCourse 123 = .ok (.aload_n 0, 1) := by decide +kernel
theorem d_MO_layCourse_124 : decode b_MO_layCourse 124 = .ok (.iload 5, 2) := by decide +kernel
theorem d_MO_layCourse_126 : decode b_MO_layCourse 126 = .ok (.iload 8, 2) := by decide +kernel
theorem d_MO_layCourse_128 : decode b_MO_layCourse 128 = .ok (.iload 6, 2) := by decide +kernel
theorem d_MO_layCourse_130 : decode b_MO_layCourse 130 = .ok (.iload 7, 2) := by decide +kernel
theorem d_MO_layCourse_132 : decode b_MO_layCourse 132 = .ok (.iload 4, 2) := by decide +kernel
theorem d_MO_layCourse_134 : decode b_MO_layCourse 134 = .ok (.invokevirtual 164, 3) := by decide +kernel
theorem d_MO_layCourse_137 : decode b_MO_layCourse 137 = .ok (.iinc 8 1, 3) := by decide +kernel
theorem d_MO_layCourse_140 : decode b_MO_layCourse 140 = .ok (.goto (-38), 3) := by decide +kernel
theorem d_MO_layCourse_143 : decode b_MO_layCourse 143 = .ok (.iinc 5 (-1), 3) := by decide +kernel
theorem d_MO_layCourse_146 : decode b_MO_layCourse 146 = .ok (.goto (-89), 3) := by decide +kernel
theorem d_MO_layCourse_149 : decode b_MO_layCourse 149 = .ok (.return_, 1) := by decide +kernel
theorem d_MO_areTwo_0 : decode b_MO_areTwo 0 = .ok (.aload_n 0, 1) := by decide +kernel
theorem d_MO_areTwo_1 : decode b_MO_areTwo 1 = .ok (.iload_n 1, 1) := by decide +kernel
theorem d_MO_areTwo_2 : decode b_MO_areTwo 2 = .ok (.invokevirtual 116, 3) := by decide +kernel
theorem d_MO_areTwo_5 : decode b_MO_areTwo 5 = .ok (.ifCond .eq 20, 3) := by decide +kernel
theorem d_MO_areTwo_8 : decode b_MO_areTwo 8 = .ok (.aload_n 0, 1) := by decide +kernel
theorem d_MO_areTwo_9 : decode b_MO_areTwo 9 = .ok (.iload_n 2, 1) := by decide +kernel
theorem d_MO_areTwo_10 : decode b_MO_areTwo 10 = .ok (.invokevirtual 116, 3) := by decide +kernel
theorem d_MO_areTwo_13 : decode b_MO_areTwo 13 = .ok (.ifCond .eq 12, 3) := by decide +kernel
theorem d_MO_areTwo_16 : decode b_MO_areTwo 16 = .ok (.iload_n 1, 1) := by decide +kernel
theorem d_MO_areTwo_17 : decode b_MO_areTwo 17 = .ok (.iload_n 2, 1) := by decide +kernel
theorem d_MO_areTwo_18 : decode b_MO_areTwo 18 = .ok (.if_icmp .eq 7, 3) := by decide +kernel
theorem d_MO_areTwo_21 : decode b_MO_areTwo 21 = .ok (.iconst 1, 1) := by decide +kernel
theorem d_MO_areTwo_22 : decode b_MO_areTwo 22 = .ok (.goto 4, 3) := by decide +kernel
theorem d_MO_areTwo_25 : decode b_MO_areTwo 25 = .ok (.iconst 0, 1) := by decide +kernel
theorem d_MO_areTwo_26 : decode b_MO_areTwo 26 = .ok (.ireturn, 1) := by decide +kernel
theorem d_MO_course_0 : decode b_MO_course 0 = .ok (.aload_n 0, 1) := by decide +kernel
theorem d_MO_course_1 : decode b_MO_course 1 = .ok (.iload_n 1, 1) := by decide +kernel
theorem d_MO_course_2 : decode b_MO_course 2 = .ok (.iload_n 2, 1) := by decide +kernel
theorem d_MO_course_3 : decode b_MO_course 3 = .ok (.invokevirtual 168, 3) := by decide +kernel
theorem d_MO_course_6 : decode b_MO_course 6 = .ok (.ifCond .eq 9, 3) := by decide +kernel
theorem d_MO_course_9 : decode b_MO_course 9 = .ok (.iload 5, 2) := by decide +kernel
theorem d_MO_course_11 : decode b_MO_course 11 = .ok (.iconst (-1), 1) := by decide +kernel
theorem d_MO_course_12 : decode b_MO_course 12 = .ok (.if_icmp .ge 5, 3) := by decide +kernel
theorem d_MO_course_15 : decode b_MO_course 15 = .ok (.iconst (-1), 1) := by decide +kernel
theorem d_MO_course_16 : decode b_MO_course 16 = .ok (.ireturn, 1) := by decide +kernel
theorem d_MO_course_17 : decode b_MO_course 17 = .ok (.iload_n 3, 1) := by decide +kernel
theorem d_MO_course_18 : decode b_MO_course 18 = .ok (.iconst 1, 1) := by decide +kernel
theorem d_MO_course_19 : decode b_MO_course 19 = .ok (.bipush 8, 2) := by decide +kernel
theorem d_MO_course_21 : decode b_MO_course 21 = .ok (.invokestatic 76, 3) := by decide +kernel
theorem d_MO_course_24 : decode b_MO_course 24 = .ok (.ifCond .eq 15, 3) := by decide +kernel
theorem d_MO_course_27 : decode b_MO_course 27 = .ok (.iload 4, 2) := by decide +kernel
theorem d_MO_course_29 : decode b_MO_course 29 = .ok (.iconst 0, 1) := by decide +kernel
theorem d_MO_course_30 : decode b_MO_course 30 = .ok (.sipush 999, 3) := by decide +kernel
theorem d_MO_course_33 : decode b_MO_course 33 = .ok (.invokestatic 76, 3) := by decide +kernel
theorem d_MO_course_36 : decode b_MO_course 36 = .ok (.ifCond .ne 6, 3) := by decide +kernel
theorem d_MO_course_39 : decode b_MO_course 39 = .ok (.bipush (-2), 2) := by decide +kernel
theorem d_MO_course_41 : decode b_MO_course 41 = .ok (.ireturn, 1) := by decide +kernel
theorem d_MO_course_42 : decode b_MO_course 42 = .ok (.aload_n 0, 1) := by decide +kernel
theorem d_MO_course_43 : decode b_MO_course 43 = .ok (.iload_n 1, 1) := by decide +kernel
theorem d_MO_course_44 : decode b_MO_course 44 = .ok (.iload_n 2, 1) := by decide +kernel
theorem d_MO_course_45 : decode b_MO_course 45 = .ok (.iload_n 3, 1) := by decide +kernel
theorem d_MO_course_46 : decode b_MO_course 46 = .ok (.iload 4, 2) := by decide +kernel
theorem d_MO_course_48 : decode b_MO_course 48 = .ok (.invokevirtual 172, 3) := by decide +kernel
theorem d_MO_course_51 : decode b_MO_course 51 = .ok (.iconst 0, 1) := by decide +kernel
theorem d_MO_course_52 : decode b_MO_course 52 = .ok (.istore 6, 2) := by decide +kernel
theorem d_MO_course_54 : decode b_MO_course 54 = .ok (.iconst 0, 1) := by decide +kernel
theorem d_MO_course_55 : decode b_MO_course 55 = .ok (.istore 7, 2) := by decide +kernel
theorem d_MO_course_57 : decode b_MO_course 57 = .ok (.iload 6, 2) := by decide +kernel
theorem d_MO_course_59 : decode b_MO_course 59 = .ok (.iload_n 3, 1) := by decide +kernel
theorem d_MO_course_60 : decode b_MO_course 60 = .ok (.if_icmp .ge 48, 3) := by decide +kernel
theorem d_MO_course_63 : decode b_MO_course 63 = .ok (.aload_n 0, 1) := by decide +kernel
theorem d_MO_course_64 : decode b_MO_course 64 = .ok (.getfield 61, 3) := by decide +kernel
theorem d_MO_course_67 : decode b_MO_course 67 = .ok (.iload 6, 2) := by decide +kernel
theorem d_MO_course_69 : decode b_MO_course 69 = .ok (.iload 7, 2) := by decide +kernel
theorem d_MO_course_71 : decode b_MO_course 71 = .ok (.invokestatic 160, 3) := by decide +kernel
theorem d_MO_course_74 : decode b_MO_course 74 = .ok (.iaload, 1) := by decide +kernel
theorem d_MO_course_75 : decode b_MO_course 75 = .ok (.ifCond .le 33, 3) := by decide +kernel
theorem d_MO_course_78 : decode b_MO_course 78 = .ok (.aload_n 0, 1) := by decide +kernel
theorem d_MO_course_79 : decode b_MO_course 79 = .ok (.getfield 61, 3) := by decide +kernel
theorem d_MO_course_82 : decode b_MO_course 82 = .ok (.iload 6, 2) := by decide +kernel
theorem d_MO_course_84 : decode b_MO_course 84 = .ok (.iload 7, 2) := by decide +kernel
theorem d_MO_course_86 : decode b_MO_course 86 = .ok (.invokestatic 160, 3) := by decide +kernel
theorem d_MO_course_89 : decode b_MO_course 89 = .ok (.iaload, 1) := by decide +kernel
theorem d_MO_course_90 : decode b_MO_course 90 = .ok (.istore 7, 2) := by decide +kernel
theorem d_MO_course_92 : decode b_MO_course 92 = .ok (.iload 6, 2) := by decide +kernel
theorem d_MO_course_94 : decode b_MO_course 94 = .ok (.iload 5, 2) := by decide +kernel
theorem d_MO_course_96 : decode b_MO_course 96 = .ok (.if_icmp .ne 6, 3) := by decide +kernel
theorem d_MO_course_99 : decode b_MO_course 99 = .ok (.iload 7, 2) := by decide +kernel
theorem d_MO_course_101 : decode b_MO_course 101 = .ok (.ireturn, 1) := by decide +kernel
theorem d_MO_course_102 : decode b_MO_course 102 = .ok (.iinc 6 1, 3) := by decide +kernel
theorem d_MO_course_105 : decode b_MO_course 105 = .ok (.goto (-48), 3) := by decide +kernel
theorem d_MO_course_108 : decode b_MO_course 108 = .ok (.iload 5, 2) := by decide +kernel
theorem d_MO_course_110 : decode b_MO_course 110 = .ok (.iconst (-1), 1) := by decide +kernel
theorem d_MO_course_111 : decode b_MO_course 111 = .ok (.if_icmp .ne 8, 3) := by decide +kernel
theorem d_MO_course_114 : decode b_MO_course 114 = .ok (.iload 6, 2) := by decide +kernel
theorem d_MO_course_116 : decode b_MO_course 116 = .ok (.goto 5, 3) := by decide +kernel
theorem d_MO_course_119 : decode b_MO_course 119 = .ok (.bipush (-9), 2) := by decide +kernel
theorem d_MO_course_121 : decode b_MO_course 121 = .ok (.ireturn, 1) := by decide +kernel
theorem d_MO_cost_0 : decode b_MO_cost 0 = .ok (.aload_n 0, 1) := by decide +kernel
theorem d_MO_cost_1 : decode b_MO_cost 1 = .ok (.iload_n 1, 1) := by decide +kernel
theorem d_MO_cost_2 : decode b_MO_cost 2 = .ok (.iload_n 2, 1) := by decide +kernel
theorem d_MO_cost_3 : decode b_MO_cost 3 = .ok (.invokevirtual 168, 3) := by decide +kernel
theorem d_MO_cost_6 : decode b_MO_cost 6 = .ok (.ifCond .ne 5, 3) := by decide +kernel
theorem d_MO_cost_9 : decode b_MO_cost 9 = .ok (.iconst (-1), 1) := by decide +kernel
theorem d_MO_cost_10 : decode b_MO_cost 10 = .ok (.ireturn, 1) := by decide +kernel
theorem d_MO_cost_11 : decode b_MO_cost 11 = .ok (.iload_n 3, 1) := by decide +kernel
theorem d_MO_cost_12 : decode b_MO_cost 12 = .ok (.iconst 1, 1) := by decide +kernel
theorem d_MO_cost_13 : decode b_MO_cost 13 = .ok (.bipush 8, 2) := by decide +kernel
theorem d_MO_cost_15 : decode b_MO_cost 15 = .ok (.invokestatic 76, 3) := by decide +kernel
theorem d_MO_cost_18 : decode b_MO_cost 18 = .ok (.ifCond .eq 25, 3) := by decide +kernel
theorem d_MO_cost_21 : decode b_MO_cost 21 = .ok (.iload 4, 2) := by decide +kernel
theorem d_MO_cost_23 : decode b_MO_cost 23 = .ok (.iconst 0, 1) := by decide +kernel
theorem d_MO_cost_24 : decode b_MO_cost 24 = .ok (.sipush 999, 3) := by decide +kernel
theorem d_MO_cost_27 : decode b_MO_cost 27 = .ok (.invokestatic 76, 3) := by decide +kernel
theorem d_MO_cost_30 : decode b_MO_cost 30 = .ok (.ifCond .eq 13, 3) := by decide +kernel
theorem d_MO_cost_33 : decode b_MO_cost 33 = .ok (.iload 5, 2) := by decide +kernel
theorem d_MO_cost_35 : decode b_MO_cost 35 = .ok (.iconst 0, 1) := by decide +kernel
theorem d_MO_cost_36 : decode b_MO_cost 36 = .ok (.iconst 1, 1) := by decide +kernel
theorem d_MO_cost_37 : decode b_MO_cost 37 = .ok (.invokestatic 76, 3) := by decide +kernel
theorem d_MO_cost_40 : decode b_MO_cost 40 = .ok (.ifCond .ne 6, 3) := by decide +kernel
theorem d_MO_cost_43 : decode b_MO_cost 43 = .ok (.bipush (-2), 2) := by decide +kernel
theorem d_MO_cost_45 : decode b_MO_cost 45 = .ok (.ireturn, 1) := by decide +kernel
theorem d_MO_cost_46 : decode b_MO_cost 46 = .ok (.aload_n 0, 1) := by decide +kernel
theorem d_MO_cost_47 : decode b_MO_cost 47 = .ok (.iload_n 1, 1) := by decide +kernel
theorem d_MO_cost_48 : decode b_MO_cost 48 = .ok (.iload_n 2, 1) := by decide +kernel
theorem d_MO_cost_49 : decode b_MO_cost 49 = .ok (.iload_n 3, 1) := by decide +kernel
theorem d_MO_cost_50 : decode b_MO_cost 50 = .ok (.iload 4, 2) := by decide +kernel
theorem d_MO_cost_52 : decode b_MO_cost 52 = .ok (.invokevirtual 172, 3) := by decide +kernel
theorem d_MO_cost_55 : decode b_MO_cost 55 = .ok (.iload 5, 2) := by decide +kernel
theorem d_MO_cost_57 : decode b_MO_cost 57 = .ok (.ifCond .ne 12, 3) := by decide +kernel
theorem d_MO_cost_60 : decode b_MO_cost 60 = .ok (.aload_n 0, 1) := by decide +kernel
theorem d_MO_cost_61 : decode b_MO_cost 61 = .ok (.getfield 55, 3) := by decide +kernel
theorem d_MO_cost_64 : decode b_MO_cost 64 = .ok (.iconst 0, 1) := by decide +kernel
theorem d_MO_cost_65 : decode b_MO_cost 65 = .ok (.iaload, 1) := by decide +kernel
theorem d_MO_cost_66 : decode b_MO_cost 66 = .ok (.goto 9, 3) := by decide +kernel
theorem d_MO_cost_69 : decode b_MO_cost 69 = .ok (.aload_n 0, 1) := by decide +kernel
theorem d_MO_cost_70 : decode b_MO_cost 70 = .ok (.getfield 58, 3) := by decide +kernel
theorem d_MO_cost_73 : decode b_MO_cost 73 = .ok (.iconst 0, 1) := by decide +kernel
theorem d_MO_cost_74 : decode b_MO_cost 74 = .ok (.iaload, 1) := by decide +kernel
theorem d_MO_cost_75 : decode b_MO_cost 75 = .ok (.ireturn, 1) := by decide +kernel
theorem d_MO_partPays_0 : decode b_MO_partPays 0 = .ok (.aload_n 0, 1) := by decide +kernel
theorem d_MO_partPays_1 : decode b_MO_partPays 1 = .ok (.aload_n 0, 1) := by decide +kernel
theorem d_MO_partPays_2 : decode b_MO_partPays 2 = .ok (.iload_n 1, 1) := by decide +kernel
theorem d_MO_partPays_3 : decode b_MO_partPays 3 = .ok (.iload_n 3, 1) := by decide +kernel
theorem d_MO_partPays_4 : decode b_MO_partPays 4 = .ok (.invokevirtual 119, 3) := by decide +kernel
theorem d_MO_partPays_7 : decode b_MO_partPays 7 = .ok (.aload_n 0, 1) := by decide +kernel
theorem d_MO_partPays_8 : decode b_MO_partPays 8 = .ok (.getfield 67, 3) := by decide +kernel
theorem d_MO_partPays_11 : decode b_MO_partPays 11 = .ok (.iload_n 2, 1) := by decide +kernel
theorem d_MO_partPays_12 : decode b_MO_partPays 12 = .ok (.iaload, 1) := by decide +kernel
theorem d_MO_partPays_13 : decode b_MO_partPays 13 = .ok (.invokevirtual 136, 3) := by decide +kernel
theorem d_MO_partPays_16 : decode b_MO_partPays 16 = .ok (.ireturn, 1) := by decide +kernel
theorem d_MO_layParts_0 : decode b_MO_layParts 0 = .ok (.iconst 0, 1) := by decide +kernel
theorem d_MO_layParts_1 : decode b_MO_layParts 1 = .ok (.istore 4, 2) := by decide +kernel
theorem d_MO_layParts_3 : decode b_MO_layParts 3 = .ok (.iload 4, 2) := by decide +kernel
theorem d_MO_layParts_5 : decode b_MO_layParts 5 = .ok (.iload_n 2, 1) := by decide +kernel
theorem d_MO_layParts_6 : decode b_MO_layParts 6 = .ok (.if_icmp .gt 32, 3) := by decide +kernel
theorem d_MO_layParts_9 : decode b_MO_layParts 9 = .ok (.aload_n 0, 1) := by decide +kernel
theorem d_MO_layParts_10 : decode b_MO_layParts 10 = .ok (.getfield 64, 3) := by decide +kernel
theorem d_MO_layParts_13 : decode b_MO_layParts 13 = .ok (.bipush 100, 2) := by decide +kernel
theorem d_MO_layParts_15 : decode b_MO_layParts 15 = .ok (.iload_n 3, 1) := by decide +kernel
theorem d_MO_layParts_16 : decode b_MO_layParts 16 = .ok (.imul, 1) := by decide +kernel
theorem d_MO_layParts_17 : decode b_MO_layParts 17 = .ok (.iload 4, 2) := by decide +kernel
theorem d_MO_layParts_19 : decode b_MO_layParts 19 = .ok (.iadd, 1) := by decide +kernel
theorem d_MO_layParts_20 : decode b_MO_layParts 20 = .ok (.iload 4, 2) := by decide +kernel
theorem d_MO_layParts_22 : decode b_MO_layParts 22 = .ok (.ifCond .ne 7, 3) := by decide +kernel
theorem d_MO_layParts_25 : decode b_MO_layParts 25 = .ok (.iconst 0, 1) := by decide +kernel
theorem d_MO_layParts_26 : decode b_MO_layParts 26 = .ok (.goto 5, 3) := by decide +kernel
theorem d_MO_layParts_29 : decode b_MO_layParts 29 = .ok (.ldc 163, 2) := by decide +kernel
theorem d_MO_layParts_31 : decode b_MO_layParts 31 = .ok (.iastore, 1) := by decide +kernel
theorem d_MO_layParts_32 : decode b_MO_layParts 32 = .ok (.iinc 4 1, 3) := by decide +kernel
theorem d_MO_layParts_35 : decode b_MO_layParts 35 = .ok (.goto (-32), 3) := by decide +kernel
theorem d_MO_layParts_38 : decode b_MO_layParts 38 = .ok (.iload_n 3, 1) := by decide +kernel
theorem d_MO_layParts_39 : decode b_MO_layParts 39 = .ok (.iconst 1, 1) := by decide +kernel
theorem d_MO_layParts_40 : decode b_MO_layParts 40 = .ok (.isub, 1) := by decide +kernel
theorem d_MO_layParts_41 : decode b_MO_layParts 41 = .ok (.istore 4, 2) := by decide +kernel
theorem d_MO_layParts_43 : decode b_MO_layParts 43 = .ok (.iload 4, 2) := by decide +kernel
theorem d_MO_layParts_45 : decode b_MO_layParts 45 = .ok (.ifCond .lt 106, 3) := by decide +kernel
theorem d_MO_layParts_48 : decode b_MO_layParts 48 = .ok (.iconst 0, 1) := by decide +kernel
theorem d_MO_layParts_49 : decode b_MO_layParts 49 = .ok (.istore 5, 2) := by decide +kernel
theorem d_MO_layParts_51 : decode b_MO_layParts 51 = .ok (.iload 5, 2) := by decide +kernel
theorem d_MO_layParts_53 : decode b_MO_layParts 53 = .ok (.iload_n 2, 1) := by decide +kernel
theorem d_MO_layParts_54 : decode b_MO_layParts 54 = .ok (.if_icmp .gt 91, 3) := by decide +kernel
theorem d_MO_layParts_57 : decode b_MO_layParts 57 = .ok (.ldc 163, 2) := by decide +kernel
theorem d_MO_layParts_59 : decode b_MO_layParts 59 = .ok (.istore 6, 2) := by decide +kernel
theorem d_MO_layParts_61 : decode b_MO_layParts 61 = .ok (.iconst 1, 1) := by decide +kernel
theorem d_MO_layParts_62 : decode b_MO_layParts 62 = .ok (.istore 7, 2) := by decide +kernel
theorem d_MO_layParts_64 : decode b_MO_layParts 64 = .ok (.iload 7, 2) := by decide +kernel
theorem d_MO_layParts_66 : decode b_MO_layParts 66 = .ok (.iload 5, 2) := by decide +kernel
theorem d_MO_layParts_68 : decode b_MO_layParts 68 = .ok (.if_icmp .gt 56, 3) := by decide +kernel
theorem d_MO_layParts_71 : decode b_MO_layParts 71 = .ok (.aload_n 0, 1) := by decide +kernel
theorem d_MO_layParts_72 : decode b_MO_layParts 72 = .ok (.getfield 64, 3) := by decide +kernel
theorem d_MO_layParts_75 : decode b_MO_layParts 75 = .ok (.bipush 100, 2) := by decide +kernel
theorem d_MO_layParts_77 : decode b_MO_layParts 77 = .ok (.iload 4, 2) := by decide +kernel
theorem d_MO_layParts_79 : decode b_MO_layParts 79 = .ok (.imul, 1) := by decide +kernel
theorem d_MO_layParts_80 : decode b_MO_layParts 80 = .ok (.bipush 100, 2) := by decide +kernel
theorem d_MO_layParts_82 : decode b_MO_layParts 82 = .ok (.iadd, 1) := by decide +kernel
theorem d_MO_layParts_83 : decode b_MO_layParts 83 = .ok (.iload 5, 2) := by decide +kernel
theorem d_MO_layParts_85 : decode b_MO_layParts 85 = .ok (.iadd, 1) := by decide +kernel
theorem d_MO_layParts_86 : decode b_MO_layParts 86 = .ok (.iload 7, 2) := by decide +kernel
theorem d_MO_layParts_88 : decode b_MO_layParts 88 = .ok (.isub, 1) := by decide +kernel
theorem d_MO_layParts_89 : decode b_MO_layParts 89 = .ok (.iaload, 1) := by decide +kernel
theorem d_MO_layParts_90 : decode b_MO_layParts 90 = .ok (.aload_n 0, 1) := by decide +kernel
theorem d_MO_layParts_91 : decode b_MO_layParts 91 = .ok (.iload_n 1, 1) := by decide +kernel
theorem d_MO_layParts_92 : decode b_MO_layParts 92 = .ok (.iload 4, 2) := by decide +kernel
theorem d_MO_layParts_94 : decode b_MO_layParts 94 = .ok (.iload 7, 2) := by decide +kernel
theorem d_MO_layParts_96 : decode b_MO_layParts 96 = .ok (.invokevirtual 176, 3) := by decide +kernel
theorem d_MO_layParts_99 : decode b_MO_layParts 99 = .ok (.iadd, 1) := by decide +kernel
theorem d_MO_layParts_100 : decode b_MO_layParts 100 = .ok (.istore 8, 2) := by decide +kernel
theorem d_MO_layParts_102 : decode b_MO_layParts 102 = .ok (.iload 8, 2) := by decide +kernel
theorem d_MO_layParts_104 : decode b_MO_layParts 104 = .ok (.iload 6, 2) := by decide +kernel
theorem d_MO_layParts_106 : decode b_MO_layParts 106 = .ok (.if_icmp .ge 8, 3) := by decide +kernel
theorem d_MO_layParts_109 : decode b_MO_layParts 109 = .ok (.iload 8, 2) := by decide +kernel
theorem d_MO_layParts_111 : decode b_MO_layParts 111 = .ok (.goto 5, 3) := by decide +kernel
theorem d_MO_layParts_114 : decode b_MO_layParts 114 = .ok (.iload 6, 2) := by decide +kernel
theorem d_MO_layParts_116 : decode b_MO_layParts 116 = .ok (.istore 6, 2) := by decide +kernel
theorem d_MO_layParts_118 : decode b_MO_layParts 118 = .ok (.iinc 7 1, 3) := by decide +kernel
theorem d_MO_layParts_121 : decode b_MO_layParts 121 = .ok (.goto (-57), 3) := by decide +kernel
theorem d_MO_layParts_124 : decode b_MO_layParts 124 = .ok (.aload_n 0, 1) := by decide +kernel
theorem d_MO_layParts_125 : decode b_MO_layParts 125 = .ok (.getfield 64, 3) := by decide +kernel
theorem d_MO_layParts_128 : decode b_MO_layParts 128 = .ok (.bipush 100, 2) := by decide +kernel
theorem d_MO_layParts_130 : decode b_MO_layParts 130 = .ok (.iload 4, 2) := by decide +kernel
theorem d_MO_layParts_132 : decode b_MO_layParts 132 = .ok (.imul, 1) := by decide +kernel
theorem d_MO_layParts_133 : decode b_MO_layParts 133 = .ok (.iload 5, 2) := by decide +kernel
theorem d_MO_layParts_135 : decode b_MO_layParts 135 = .ok (.iadd, 1) := by decide +kernel
theorem d_MO_layParts_136 : decode b_MO_layParts 136 = .ok (.iload 6, 2) := by decide +kernel
theorem d_MO_layParts_138 : decode b_MO_layParts 138 = .ok (.iastore, 1) := by decide +kernel
theorem d_MO_layParts_139 : decode b_MO_layParts 139 = .ok (.iinc 5 1, 3) := by decide +kernel
theorem d_MO_layParts_142 : decode b_MO_layParts 142 = .ok (.goto (-91), 3) := by decide +kernel
theorem d_MO_layParts_145 : decode b_MO_layParts 145 = .ok (.iinc 4 (-1), 3) := by decide +kernel
theorem d_MO_layParts_148 : decode b_MO_layParts 148 = .ok (.goto (-105), 3) := by decide +kernel
theorem d_MO_layParts_151 : decode b_MO_layParts 151 = .ok (.return_, 1) := by decide +kernel
theorem d_MO_split_0 : decode b_MO_split 0 = .ok (.aload_n 0, 1) := by decide +kernel
theorem d_MO_split_1 : decode b_MO_split 1 = .ok (.iconst 0, 1) := by decide +kernel
theorem d_MO_split_2 : decode b_MO_split 2 = .ok (.putfield 70, 3) := by decide +kernel
theorem d_MO_split_5 : decode b_MO_split 5 = .ok (.aload_n 0, 1) := by decide +kernel
theorem d_MO_split_6 : decode b_MO_split 6 = .ok (.iload_n 1, 1) := by decide +kernel
theorem d_MO_split_7 : decode b_MO_split 7 = .ok (.invokevirtual 116, 3) := by decide +kernel
theorem d_MO_split_10 : decode b_MO_split 10 = .ok (.ifCond .eq 10, 3) := by decide +kernel
theorem d_MO_split_13 : decode b_MO_split 13 = .ok (.iload_n 3, 1) := by decide +kernel
theorem d_MO_split_14 : decode b_MO_split 14 = .ok (.invokestatic 83, 3) := by decide +kernel
theorem d_MO_split_17 : decode b_MO_split 17 = .ok (.ifCond .ne 5, 3) := by decide +kernel
theorem d_MO_split_20 : decode b_MO_split 20 = .ok (.iconst (-1), 1) := by decide +kernel
theorem d_MO_split_21 : decode b_MO_split 21 = .ok (.ireturn, 1) := by decide +kernel
theorem d_MO_split_22 : decode b_MO_split 22 = .ok (.iload 4, 2) := by decide +kernel
theorem d_MO_split_24 : decode b_MO_split 24 = .ok (.invokestatic 87, 3) := by decide +kernel
theorem d_MO_split_27 : decode b_MO_split 27 = .ok (.ifCond .eq 13, 3) := by decide +kernel
theorem d_MO_split_30 : decode b_MO_split 30 = .ok (.iload_n 2, 1) := by decide +kernel
theorem d_MO_split_31 : decode b_MO_split 31 = .ok (.iconst 1, 1) := by decide +kernel
theorem d_MO_split_32 : decode b_MO_split 32 = .ok (.bipush 99, 2) := by decide +kernel
theorem d_MO_split_34 : decode b_MO_split 34 = .ok (.invokestatic 76, 3) := by decide +kernel
theorem d_MO_split_37 : decode b_MO_split 37 = .ok (.ifCond .ne 6, 3) := by decide +kernel
theorem d_MO_split_40 : decode b_MO_split 40 = .ok (.bipush (-2), 2) := by decide +kernel
theorem d_MO_split_42 : decode b_MO_split 42 = .ok (.ireturn, 1) := by decide +kernel
theorem d_MO_split_43 : decode b_MO_split 43 = .ok (.aload_n 0, 1) := by decide +kernel
theorem d_MO_split_44 : decode b_MO_split 44 = .ok (.iload_n 3, 1) := by decide +kernel
theorem d_MO_split_45 : decode b_MO_split 45 = .ok (.iload 4, 2) := by decide +kernel
theorem d_MO_split_47 : decode b_MO_split 47 = .ok (.iload 5, 2) := by decide +kernel
theorem d_MO_split_49 : decode b_MO_split 49 = .ok (.iload 6, 2) := by decide +kernel
theorem d_MO_split_51 : decode b_MO_split 51 = .ok (.invokevirtual 90, 3) := by decide +kernel
theorem d_MO_split_54 : decode b_MO_split 54 = .ok (.istore 8, 2) := by decide +kernel
theorem d_MO_split_56 : decode b_MO_split 56 = .ok (.iload 8, 2) := by decide +kernel
theorem d_MO_split_58 : decode b_MO_split 58 = .ok (.ifCond .eq 10, 3) := by decide +kernel
theorem d_MO_split_61 : decode b_MO_split 61 = .ok (.aload_n 0, 1) := by decide +kernel
theorem d_MO_split_62 : decode b_MO_split 62 = .ok (.iload 8, 2) := by decide +kernel
theorem d_MO_split_64 : decode b_MO_split 64 = .ok (.invokevirtual 94, 3) := by decide +kernel
theorem d_MO_split_67 : decode b_MO_split 67 = .ok (.ireturn, 1) := by decide +kernel
theorem d_MO_split_68 : decode b_MO_split 68 = .ok (.iload 6, 2) := by decide +kernel
theorem d_MO_split_70 : decode b_MO_split 70 = .ok (.iconst 1, 1) := by decide +kernel
theorem d_MO_split_71 : decode b_MO_split 71 = .ok (.bipush 6, 2) := by decide +kernel
theorem d_MO_split_73 : decode b_MO_split 73 = .ok (.invokestatic 76, 3) := by decide +kernel
theorem d_MO_split_76 : decode b_MO_split 76 = .ok (.ifCond .eq 9, 3) := by decide +kernel
theorem d_MO_split_79 : decode b_MO_split 79 = .ok (.iload 6, 2) := by decide +kernel
theorem d_MO_split_81 : decode b_MO_split 81 = .ok (.iload_n 2, 1) := by decide +kernel
theorem d_MO_split_82 : decode b_MO_split 82 = .ok (.if_icmp .le 6, 3) := by decide +kernel
theorem d_MO_split_85 : decode b_MO_split 85 = .ok (.bipush (-2), 2) := by decide +kernel
theorem d_MO_split_87 : decode b_MO_split 87 = .ok (.ireturn, 1) := by decide +kernel
theorem d_MO_split_88 : decode b_MO_split 88 = .ok (.iconst 0, 1) := by decide +kernel
theorem d_MO_split_89 : decode b_MO_split 89 = .ok (.istore 9, 2) := by decide +kernel
theorem d_MO_split_91 : decode b_MO_split 91 = .ok (.iload 9, 2) := by decide +kernel
theorem d_MO_split_93 : decode b_MO_split 93 = .ok (.iload 6, 2) := by decide +kernel
theorem d_MO_split_95 : decode b_MO_split 95 = .ok (.if_icmp .ge 51, 3) := by decide +kernel
theorem d_MO_split_98 : decode b_MO_split 98 = .ok (.aload_n 0, 1) := by decide +kernel
theorem d_MO_split_99 : decode b_MO_split 99 = .ok (.getfield 67, 3) := by decide +kernel
theorem d_MO_split_102 : decode b_MO_split 102 = .ok (.iload 9, 2) := by decide +kernel
theorem d_MO_split_104 : decode b_MO_split 104 = .ok (.aload_n 0, 1) := by decide +kernel
theorem d_MO_split_105 : decode b_MO_split 105 = .ok (.getfield 16, 3) := by decide +kernel
theorem d_MO_split_108 : decode b_MO_split 108 = .ok (.bipush 40, 2) := by decide +kernel
theorem d_MO_split_110 : decode b_MO_split 110 = .ok (.iload_n 3, 1) := by decide +kernel
theorem d_MO_split_111 : decode b_MO_split 111 = .ok (.imul, 1) := by decide +kernel
theorem d_MO_split_112 : decode b_MO_split 112 = .ok (.iload 5, 2) := by decide +kernel
theorem d_MO_split_114 : decode b_MO_split 114 = .ok (.iadd, 1) := by decide +kernel
theorem d_MO_split_115 : decode b_MO_split 115 = .ok (.iload 9, 2) := by decide +kernel
theorem d_MO_split_117 : decode b_MO_split 117 = .ok (.iadd, 1) := by decide +kernel
theorem d_MO_split_118 : decode b_MO_split 118 = .ok (.iaload, 1) := by decide +kernel
theorem d_MO_split_119 : decode b_MO_split 119 = .ok (.iastore, 1) := by decide +kernel
theorem d_MO_split_120 : decode b_MO_split 120 = .ok (.aload_n 0, 1) := by decide +kernel
theorem d_MO_split_121 : decode b_MO_split 121 = .ok (.getfield 67, 3) := by decide +kernel
theorem d_MO_split_124 : decode b_MO_split 124 = .ok (.iload 9, 2) := by decide +kernel
theorem d_MO_split_126 : decode b_MO_split 126 = .ok (.iaload, 1) := by decide +kernel
theorem d_MO_split_127 : decode b_MO_split 127 = .ok (.iconst 1, 1) := by decide +kernel
theorem d_MO_split_128 : decode b_MO_split 128 = .ok (.sipush 200, 3) := by decide +kernel
theorem d_MO_split_131 : decode b_MO_split 131 = .ok (.invokestatic 76, 3) := by decide +kernel
theorem d_MO_split_134 : decode b_MO_split 134 = .ok (.ifCond .ne 6, 3) := by decide +kernel
theorem d_MO_split_137 : decode b_MO_split 137 = .ok (.bipush (-2), 2) := by decide +kernel
theorem d_MO_split_139 : decode b_MO_split 139 = .ok (.ireturn, 1) := by decide +kernel
theorem d_MO_split_140 : decode b_MO_split 140 = .ok (.iinc 9 1, 3) := by decide +kernel
theorem d_MO_split_143 : decode b_MO_split 143 = .ok (.goto (-52), 3) := by decide +kernel
theorem d_MO_split_146 : decode b_MO_split 146 = .ok (.iload 7, 2) := by decide +kernel
theorem d_MO_split_148 : decode b_MO_split 148 = .ok (.iconst (-1), 1) := by decide +kernel
theorem d_MO_split_149 : decode b_MO_split 149 = .ok (.iload 6, 2) := by decide +kernel
theorem d_MO_split_151 : decode b_MO_split 151 = .ok (.iconst 1, 1) := by decide +kernel
theorem d_MO_split_152 : decode b_MO_split 152 = .ok (.isub, 1) := by decide +kernel
theorem d_MO_split_153 : decode b_MO_split 153 = .ok (.invokestatic 76, 3) := by decide +kernel
theorem d_MO_split_156 : decode b_MO_split 156 = .ok (.ifCond .ne 5, 3) := by decide +kernel
theorem d_MO_split_159 : decode b_MO_split 159 = .ok (.iconst (-1), 1) := by decide +kernel
theorem d_MO_split_160 : decode b_MO_split 160 = .ok (.ireturn, 1) := by decide +kernel
theorem d_MO_split_161 : decode b_MO_split 161 = .ok (.aload_n 0, 1) := by decide +kernel
theorem d_MO_split_162 : decode b_MO_split 162 = .ok (.iload_n 1, 1) := by decide +kernel
theorem d_MO_split_163 : decode b_MO_split 163 = .ok (.iload_n 2, 1) := by decide +kernel
theorem d_MO_split_164 : decode b_MO_split 164 = .ok (.iload 6, 2) := by decide +kernel
theorem d_MO_split_166 : decode b_MO_split 166 = .ok (.invokevirtual 179, 3) := by decide +kernel
theorem d_MO_split_169 : decode b_MO_split 169 = .ok (.iload 7, 2) := by decide +kernel
theorem d_MO_split_171 : decode b_MO_split 171 = .ok (.iconst (-1), 1) := by decide +kernel
theorem d_MO_split_172 : decode b_MO_split 172 = .ok (.if_icmp .ne 12, 3) := by decide +kernel
theorem d_MO_split_175 : decode b_MO_split 175 = .ok (.aload_n 0, 1) := by decide +kernel
theorem d_MO_split_176 : decode b_MO_split 176 = .ok (.getfield 64, 3) := by decide +kernel
theorem d_MO_split_179 : decode b_MO_split 179 = .ok (.iload_n 2, 1) := by decide +kernel
theorem d_MO_split_180 : decode b_MO_split 180 = .ok (.iaload, 1) := by decide +kernel
theorem d_MO_split_181 : decode b_MO_split 181 = .ok (.goto 11, 3) := by decide +kernel
theorem d_MO_split_184 : decode b_MO_split 184 = .ok (.aload_n 0, 1) := by decide +kernel
theorem d_MO_split_185 : decode b_MO_split 185 = .ok (.iload_n 1, 1) := by decide +kernel
