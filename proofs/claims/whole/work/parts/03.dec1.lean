theorem dX10_init_0 : decode cX10_init 0 = .ok (.aload_n 0, 1) := by decide +kernel
theorem dX10_init_1 : decode cX10_init 1 = .ok (.invokespecial 1, 3) := by decide +kernel
theorem dX10_init_4 : decode cX10_init 4 = .ok (.aload_n 0, 1) := by decide +kernel
theorem dX10_init_5 : decode cX10_init 5 = .ok (.new 7, 3) := by decide +kernel
theorem dX10_init_8 : decode cX10_init 8 = .ok (.dup, 1) := by decide +kernel
theorem dX10_init_9 : decode cX10_init 9 = .ok (.invokespecial 9, 3) := by decide +kernel
theorem dX10_init_12 : decode cX10_init 12 = .ok (.putfield 10, 3) := by decide +kernel
theorem dX10_init_15 : decode cX10_init 15 = .ok (.aload_n 0, 1) := by decide +kernel
theorem dX10_init_16 : decode cX10_init 16 = .ok (.new 7, 3) := by decide +kernel
theorem dX10_init_19 : decode cX10_init 19 = .ok (.dup, 1) := by decide +kernel
theorem dX10_init_20 : decode cX10_init 20 = .ok (.invokespecial 9, 3) := by decide +kernel
theorem dX10_init_23 : decode cX10_init 23 = .ok (.putfield 16, 3) := by decide +kernel
theorem dX10_init_26 : decode cX10_init 26 = .ok (.aload_n 0, 1) := by decide +kernel
theorem dX10_init_27 : decode cX10_init 27 = .ok (.new 7, 3) := by decide +kernel
theorem dX10_init_30 : decode cX10_init 30 = .ok (.dup, 1) := by decide +kernel
theorem dX10_init_31 : decode cX10_init 31 = .ok (.invokespecial 9, 3) := by decide +kernel
theorem dX10_init_34 : decode cX10_init 34 = .ok (.putfield 19, 3) := by decide +kernel
theorem dX10_init_37 : decode cX10_init 37 = .ok (.aload_n 0, 1) := by decide +kernel
theorem dX10_init_38 : decode cX10_init 38 = .ok (.new 22, 3) := by decide +kernel
theorem dX10_init_41 : decode cX10_init 41 = .ok (.dup, 1) := by decide +kernel
theorem dX10_init_42 : decode cX10_init 42 = .ok (.invokespecial 24, 3) := by decide +kernel
theorem dX10_init_45 : decode cX10_init 45 = .ok (.putfield 25, 3) := by decide +kernel
theorem dX10_init_48 : decode cX10_init 48 = .ok (.aload_n 0, 1) := by decide +kernel
theorem dX10_init_49 : decode cX10_init 49 = .ok (.new 29, 3) := by decide +kernel
theorem dX10_init_52 : decode cX10_init 52 = .ok (.dup, 1) := by decide +kernel
theorem dX10_init_53 : decode cX10_init 53 = .ok (.invokespecial 31, 3) := by decide +kernel
theorem dX10_init_56 : decode cX10_init 56 = .ok (.putfield 32, 3) := by decide +kernel
theorem dX10_init_59 : decode cX10_init 59 = .ok (.aload_n 0, 1) := by decide +kernel
theorem dX10_init_60 : decode cX10_init 60 = .ok (.new 36, 3) := by decide +kernel
theorem dX10_init_63 : decode cX10_init 63 = .ok (.dup, 1) := by decide +kernel
theorem dX10_init_64 : decode cX10_init 64 = .ok (.iconst 2, 1) := by decide +kernel
theorem dX10_init_65 : decode cX10_init 65 = .ok (.invokespecial 38, 3) := by decide +kernel
theorem dX10_init_68 : decode cX10_init 68 = .ok (.putfield 41, 3) := by decide +kernel
theorem dX10_init_71 : decode cX10_init 71 = .ok (.aload_n 0, 1) := by decide +kernel
theorem dX10_init_72 : decode cX10_init 72 = .ok (.new 36, 3) := by decide +kernel
theorem dX10_init_75 : decode cX10_init 75 = .ok (.dup, 1) := by decide +kernel
theorem dX10_init_76 : decode cX10_init 76 = .ok (.iconst 0, 1) := by decide +kernel
theorem dX10_init_77 : decode cX10_init 77 = .ok (.invokespecial 38, 3) := by decide +kernel
theorem dX10_init_80 : decode cX10_init 80 = .ok (.putfield 45, 3) := by decide +kernel
theorem dX10_init_83 : decode cX10_init 83 = .ok (.aload_n 0, 1) := by decide +kernel
theorem dX10_init_84 : decode cX10_init 84 = .ok (.new 48, 3) := by decide +kernel
theorem dX10_init_87 : decode cX10_init 87 = .ok (.dup, 1) := by decide +kernel
theorem dX10_init_88 : decode cX10_init 88 = .ok (.invokespecial 50, 3) := by decide +kernel
theorem dX10_init_91 : decode cX10_init 91 = .ok (.putfield 51, 3) := by decide +kernel
theorem dX10_init_94 : decode cX10_init 94 = .ok (.aload_n 0, 1) := by decide +kernel
theorem dX10_init_95 : decode cX10_init 95 = .ok (.iconst 0, 1) := by decide +kernel
theorem dX10_init_96 : decode cX10_init 96 = .ok (.putfield 55, 3) := by decide +kernel
theorem dX10_init_99 : decode cX10_init 99 = .ok (.aload_n 0, 1) := by decide +kernel
theorem dX10_init_100 : decode cX10_init 100 = .ok (.bipush 10, 2) := by decide +kernel
theorem dX10_init_102 : decode cX10_init 102 = .ok (.putfield 59, 3) := by decide +kernel
theorem dX10_init_105 : decode cX10_init 105 = .ok (.aload_n 0, 1) := by decide +kernel
theorem dX10_init_106 : decode cX10_init 106 = .ok (.lconst 0, 1) := by decide +kernel
theorem dX10_init_107 : decode cX10_init 107 = .ok (.putfield 62, 3) := by decide +kernel
theorem dX10_init_110 : decode cX10_init 110 = .ok (.return_, 1) := by decide +kernel
theorem dX10_garden_0 : decode cX10_garden 0 = .ok (.iload_n 1, 1) := by decide +kernel
theorem dX10_garden_1 : decode cX10_garden 1 = .ok (.iconst 1, 1) := by decide +kernel
theorem dX10_garden_2 : decode cX10_garden 2 = .ok (.sipush 5000, 3) := by decide +kernel
theorem dX10_garden_5 : decode cX10_garden 5 = .ok (.invokestatic 66, 3) := by decide +kernel
theorem dX10_garden_8 : decode cX10_garden 8 = .ok (.ifCond .ne 5, 3) := by decide +kernel
theorem dX10_garden_11 : decode cX10_garden 11 = .ok (.iconst (-1), 1) := by decide +kernel
theorem dX10_garden_12 : decode cX10_garden 12 = .ok (.ireturn, 1) := by decide +kernel
theorem dX10_garden_13 : decode cX10_garden 13 = .ok (.iload_n 2, 1) := by decide +kernel
theorem dX10_garden_14 : decode cX10_garden 14 = .ok (.iconst 0, 1) := by decide +kernel
theorem dX10_garden_15 : decode cX10_garden 15 = .ok (.bipush 40, 2) := by decide +kernel
theorem dX10_garden_17 : decode cX10_garden 17 = .ok (.invokestatic 66, 3) := by decide +kernel
theorem dX10_garden_20 : decode cX10_garden 20 = .ok (.ifCond .eq 13, 3) := by decide +kernel
theorem dX10_garden_23 : decode cX10_garden 23 = .ok (.iload_n 3, 1) := by decide +kernel
theorem dX10_garden_24 : decode cX10_garden 24 = .ok (.iload_n 2, 1) := by decide +kernel
theorem dX10_garden_25 : decode cX10_garden 25 = .ok (.bipush 40, 2) := by decide +kernel
theorem dX10_garden_27 : decode cX10_garden 27 = .ok (.invokestatic 66, 3) := by decide +kernel
theorem dX10_garden_30 : decode cX10_garden 30 = .ok (.ifCond .ne 5, 3) := by decide +kernel
theorem dX10_garden_33 : decode cX10_garden 33 = .ok (.iconst (-1), 1) := by decide +kernel
theorem dX10_garden_34 : decode cX10_garden 34 = .ok (.ireturn, 1) := by decide +kernel
theorem dX10_garden_35 : decode cX10_garden 35 = .ok (.aload_n 0, 1) := by decide +kernel
theorem dX10_garden_36 : decode cX10_garden 36 = .ok (.getfield 10, 3) := by decide +kernel
theorem dX10_garden_39 : decode cX10_garden 39 = .ok (.invokevirtual 70, 3) := by decide +kernel
theorem dX10_garden_42 : decode cX10_garden 42 = .ok (.bipush 6, 2) := by decide +kernel
theorem dX10_garden_44 : decode cX10_garden 44 = .ok (.if_icmp .lt 6, 3) := by decide +kernel
theorem dX10_garden_47 : decode cX10_garden 47 = .ok (.bipush (-3), 2) := by decide +kernel
theorem dX10_garden_49 : decode cX10_garden 49 = .ok (.ireturn, 1) := by decide +kernel
theorem dX10_garden_50 : decode cX10_garden 50 = .ok (.aload_n 0, 1) := by decide +kernel
theorem dX10_garden_51 : decode cX10_garden 51 = .ok (.getfield 10, 3) := by decide +kernel
theorem dX10_garden_54 : decode cX10_garden 54 = .ok (.new 74, 3) := by decide +kernel
theorem dX10_garden_57 : decode cX10_garden 57 = .ok (.dup, 1) := by decide +kernel
theorem dX10_garden_58 : decode cX10_garden 58 = .ok (.iload_n 1, 1) := by decide +kernel
theorem dX10_garden_59 : decode cX10_garden 59 = .ok (.iload_n 2, 1) := by decide +kernel
theorem dX10_garden_60 : decode cX10_garden 60 = .ok (.iload_n 3, 1) := by decide +kernel
theorem dX10_garden_61 : decode cX10_garden 61 = .ok (.invokespecial 76, 3) := by decide +kernel
theorem dX10_garden_64 : decode cX10_garden 64 = .ok (.invokevirtual 79, 3) := by decide +kernel
theorem dX10_garden_67 : decode cX10_garden 67 = .ok (.pop, 1) := by decide +kernel
theorem dX10_garden_68 : decode cX10_garden 68 = .ok (.aload_n 0, 1) := by decide +kernel
theorem dX10_garden_69 : decode cX10_garden 69 = .ok (.getfield 10, 3) := by decide +kernel
theorem dX10_garden_72 : decode cX10_garden 72 = .ok (.invokevirtual 70, 3) := by decide +kernel
theorem dX10_garden_75 : decode cX10_garden 75 = .ok (.iconst 1, 1) := by decide +kernel
theorem dX10_garden_76 : decode cX10_garden 76 = .ok (.isub, 1) := by decide +kernel
theorem dX10_garden_77 : decode cX10_garden 77 = .ok (.ireturn, 1) := by decide +kernel
theorem dX10_gang_0 : decode cX10_gang 0 = .ok (.iload_n 1, 1) := by decide +kernel
theorem dX10_gang_1 : decode cX10_gang 1 = .ok (.iconst 1, 1) := by decide +kernel
theorem dX10_gang_2 : decode cX10_gang 2 = .ok (.bipush 30, 2) := by decide +kernel
theorem dX10_gang_4 : decode cX10_gang 4 = .ok (.invokestatic 66, 3) := by decide +kernel
theorem dX10_gang_7 : decode cX10_gang 7 = .ok (.ifCond .ne 5, 3) := by decide +kernel
theorem dX10_gang_10 : decode cX10_gang 10 = .ok (.iconst (-1), 1) := by decide +kernel
theorem dX10_gang_11 : decode cX10_gang 11 = .ok (.ireturn, 1) := by decide +kernel
theorem dX10_gang_12 : decode cX10_gang 12 = .ok (.iload_n 2, 1) := by decide +kernel
theorem dX10_gang_13 : decode cX10_gang 13 = .ok (.bipush 80, 2) := by decide +kernel
theorem dX10_gang_15 : decode cX10_gang 15 = .ok (.bipush 120, 2) := by decide +kernel
theorem dX10_gang_17 : decode cX10_gang 17 = .ok (.invokestatic 66, 3) := by decide +kernel
theorem dX10_gang_20 : decode cX10_gang 20 = .ok (.ifCond .ne 5, 3) := by decide +kernel
theorem dX10_gang_23 : decode cX10_gang 23 = .ok (.iconst (-1), 1) := by decide +kernel
theorem dX10_gang_24 : decode cX10_gang 24 = .ok (.ireturn, 1) := by decide +kernel
theorem dX10_gang_25 : decode cX10_gang 25 = .ok (.aload_n 0, 1) := by decide +kernel
theorem dX10_gang_26 : decode cX10_gang 26 = .ok (.getfield 16, 3) := by decide +kernel
theorem dX10_gang_29 : decode cX10_gang 29 = .ok (.invokevirtual 70, 3) := by decide +kernel
theorem dX10_gang_32 : decode cX10_gang 32 = .ok (.bipush 6, 2) := by decide +kernel
theorem dX10_gang_34 : decode cX10_gang 34 = .ok (.if_icmp .lt 6, 3) := by decide +kernel
theorem dX10_gang_37 : decode cX10_gang 37 = .ok (.bipush (-3), 2) := by decide +kernel
theorem dX10_gang_39 : decode cX10_gang 39 = .ok (.ireturn, 1) := by decide +kernel
theorem dX10_gang_40 : decode cX10_gang 40 = .ok (.aload_n 0, 1) := by decide +kernel
theorem dX10_gang_41 : decode cX10_gang 41 = .ok (.getfield 16, 3) := by decide +kernel
theorem dX10_gang_44 : decode cX10_gang 44 = .ok (.new 83, 3) := by decide +kernel
theorem dX10_gang_47 : decode cX10_gang 47 = .ok (.dup, 1) := by decide +kernel
theorem dX10_gang_48 : decode cX10_gang 48 = .ok (.iload_n 1, 1) := by decide +kernel
theorem dX10_gang_49 : decode cX10_gang 49 = .ok (.iload_n 2, 1) := by decide +kernel
theorem dX10_gang_50 : decode cX10_gang 50 = .ok (.invokespecial 85, 3) := by decide +kernel
theorem dX10_gang_53 : decode cX10_gang 53 = .ok (.invokevirtual 79, 3) := by decide +kernel
theorem dX10_gang_56 : decode cX10_gang 56 = .ok (.pop, 1) := by decide +kernel
theorem dX10_gang_57 : decode cX10_gang 57 = .ok (.aload_n 0, 1) := by decide +kernel
theorem dX10_gang_58 : decode cX10_gang 58 = .ok (.getfield 16, 3) := by decide +kernel
theorem dX10_gang_61 : decode cX10_gang 61 = .ok (.invokevirtual 70, 3) := by decide +kernel
theorem dX10_gang_64 : decode cX10_gang 64 = .ok (.iconst 1, 1) := by decide +kernel
theorem dX10_gang_65 : decode cX10_gang 65 = .ok (.isub, 1) := by decide +kernel
theorem dX10_gang_66 : decode cX10_gang 66 = .ok (.ireturn, 1) := by decide +kernel
theorem dX10_sends_0 : decode cX10_sends 0 = .ok (.aload_n 0, 1) := by decide +kernel
theorem dX10_sends_1 : decode cX10_sends 1 = .ok (.iload_n 1, 1) := by decide +kernel
theorem dX10_sends_2 : decode cX10_sends 2 = .ok (.invokevirtual 88, 3) := by decide +kernel
theorem dX10_sends_5 : decode cX10_sends 5 = .ok (.astore_n 3, 1) := by decide +kernel
theorem dX10_sends_6 : decode cX10_sends 6 = .ok (.aload_n 3, 1) := by decide +kernel
theorem dX10_sends_7 : decode cX10_sends 7 = .ok (.ifnonnull 6, 3) := by decide +kernel
theorem dX10_sends_10 : decode cX10_sends 10 = .ok (.bipush (-2), 2) := by decide +kernel
theorem dX10_sends_12 : decode cX10_sends 12 = .ok (.ireturn, 1) := by decide +kernel
theorem dX10_sends_13 : decode cX10_sends 13 = .ok (.iload_n 2, 1) := by decide +kernel
theorem dX10_sends_14 : decode cX10_sends 14 = .ok (.bipush (-9), 2) := by decide +kernel
theorem dX10_sends_16 : decode cX10_sends 16 = .ok (.if_icmp .eq 14, 3) := by decide +kernel
theorem dX10_sends_19 : decode cX10_sends 19 = .ok (.aload_n 0, 1) := by decide +kernel
theorem dX10_sends_20 : decode cX10_sends 20 = .ok (.iload_n 2, 1) := by decide +kernel
theorem dX10_sends_21 : decode cX10_sends 21 = .ok (.invokevirtual 92, 3) := by decide +kernel
theorem dX10_sends_24 : decode cX10_sends 24 = .ok (.ifnonnull 6, 3) := by decide +kernel
theorem dX10_sends_27 : decode cX10_sends 27 = .ok (.bipush (-2), 2) := by decide +kernel
theorem dX10_sends_29 : decode cX10_sends 29 = .ok (.ireturn, 1) := by decide +kernel
theorem dX10_sends_30 : decode cX10_sends 30 = .ok (.aload_n 3, 1) := by decide +kernel
theorem dX10_sends_31 : decode cX10_sends 31 = .ok (.getfield 96, 3) := by decide +kernel
theorem dX10_sends_34 : decode cX10_sends 34 = .ok (.istore 4, 2) := by decide +kernel
theorem dX10_sends_36 : decode cX10_sends 36 = .ok (.aload_n 3, 1) := by decide +kernel
theorem dX10_sends_37 : decode cX10_sends 37 = .ok (.iload_n 2, 1) := by decide +kernel
theorem dX10_sends_38 : decode cX10_sends 38 = .ok (.putfield 96, 3) := by decide +kernel
theorem dX10_sends_41 : decode cX10_sends 41 = .ok (.iload 4, 2) := by decide +kernel
theorem dX10_sends_43 : decode cX10_sends 43 = .ok (.ireturn, 1) := by decide +kernel
theorem dX10_kiln_0 : decode cX10_kiln 0 = .ok (.iload_n 1, 1) := by decide +kernel
theorem dX10_kiln_1 : decode cX10_kiln 1 = .ok (.iconst 0, 1) := by decide +kernel
theorem dX10_kiln_2 : decode cX10_kiln 2 = .ok (.iconst 2, 1) := by decide +kernel
theorem dX10_kiln_3 : decode cX10_kiln 3 = .ok (.invokestatic 66, 3) := by decide +kernel
theorem dX10_kiln_6 : decode cX10_kiln 6 = .ok (.ifCond .eq 14, 3) := by decide +kernel
theorem dX10_kiln_9 : decode cX10_kiln 9 = .ok (.iload_n 2, 1) := by decide +kernel
theorem dX10_kiln_10 : decode cX10_kiln 10 = .ok (.iconst 1, 1) := by decide +kernel
theorem dX10_kiln_11 : decode cX10_kiln 11 = .ok (.sipush 200, 3) := by decide +kernel
theorem dX10_kiln_14 : decode cX10_kiln 14 = .ok (.invokestatic 66, 3) := by decide +kernel
theorem dX10_kiln_17 : decode cX10_kiln 17 = .ok (.ifCond .ne 5, 3) := by decide +kernel
theorem dX10_kiln_20 : decode cX10_kiln 20 = .ok (.iconst (-1), 1) := by decide +kernel
theorem dX10_kiln_21 : decode cX10_kiln 21 = .ok (.ireturn, 1) := by decide +kernel
theorem dX10_kiln_22 : decode cX10_kiln 22 = .ok (.aload_n 0, 1) := by decide +kernel
theorem dX10_kiln_23 : decode cX10_kiln 23 = .ok (.getfield 19, 3) := by decide +kernel
theorem dX10_kiln_26 : decode cX10_kiln 26 = .ok (.invokevirtual 70, 3) := by decide +kernel
theorem dX10_kiln_29 : decode cX10_kiln 29 = .ok (.iconst 4, 1) := by decide +kernel
theorem dX10_kiln_30 : decode cX10_kiln 30 = .ok (.if_icmp .lt 6, 3) := by decide +kernel
theorem dX10_kiln_33 : decode cX10_kiln 33 = .ok (.bipush (-3), 2) := by decide +kernel
theorem dX10_kiln_35 : decode cX10_kiln 35 = .ok (.ireturn, 1) := by decide +kernel
theorem dX10_kiln_36 : decode cX10_kiln 36 = .ok (.aload_n 0, 1) := by decide +kernel
theorem dX10_kiln_37 : decode cX10_kiln 37 = .ok (.getfield 19, 3) := by decide +kernel
theorem dX10_kiln_40 : decode cX10_kiln 40 = .ok (.new 99, 3) := by decide +kernel
theorem dX10_kiln_43 : decode cX10_kiln 43 = .ok (.dup, 1) := by decide +kernel
theorem dX10_kiln_44 : decode cX10_kiln 44 = .ok (.iload_n 1, 1) := by decide +kernel
theorem dX10_kiln_45 : decode cX10_kiln 45 = .ok (.invokestatic 101, 3) := by decide +kernel
theorem dX10_kiln_48 : decode cX10_kiln 48 = .ok (.iload_n 2, 1) := by decide +kernel
theorem dX10_kiln_49 : decode cX10_kiln 49 = .ok (.invokespecial 105, 3) := by decide +kernel
theorem dX10_kiln_52 : decode cX10_kiln 52 = .ok (.invokevirtual 79, 3) := by decide +kernel
theorem dX10_kiln_55 : decode cX10_kiln 55 = .ok (.pop, 1) := by decide +kernel
theorem dX10_kiln_56 : decode cX10_kiln 56 = .ok (.aload_n 0, 1) := by decide +kernel
theorem dX10_kiln_57 : decode cX10_kiln 57 = .ok (.getfield 19, 3) := by decide +kernel
theorem dX10_kiln_60 : decode cX10_kiln 60 = .ok (.invokevirtual 70, 3) := by decide +kernel
theorem dX10_kiln_63 : decode cX10_kiln 63 = .ok (.iconst 1, 1) := by decide +kernel
theorem dX10_kiln_64 : decode cX10_kiln 64 = .ok (.isub, 1) := by decide +kernel
theorem dX10_kiln_65 : decode cX10_kiln 65 = .ok (.ireturn, 1) := by decide +kernel
theorem dX10_read_0 : decode cX10_read 0 = .ok (.aload_n 0, 1) := by decide +kernel
theorem dX10_read_1 : decode cX10_read 1 = .ok (.iload_n 1, 1) := by decide +kernel
theorem dX10_read_2 : decode cX10_read 2 = .ok (.invokevirtual 108, 3) := by decide +kernel
theorem dX10_read_5 : decode cX10_read 5 = .ok (.astore_n 3, 1) := by decide +kernel
theorem dX10_read_6 : decode cX10_read 6 = .ok (.aload_n 3, 1) := by decide +kernel
theorem dX10_read_7 : decode cX10_read 7 = .ok (.ifnonnull 5, 3) := by decide +kernel
theorem dX10_read_10 : decode cX10_read 10 = .ok (.iconst (-1), 1) := by decide +kernel
theorem dX10_read_11 : decode cX10_read 11 = .ok (.ireturn, 1) := by decide +kernel
theorem dX10_read_12 : decode cX10_read 12 = .ok (.iload_n 2, 1) := by decide +kernel
theorem dX10_read_13 : decode cX10_read 13 = .ok (.bipush (-9), 2) := by decide +kernel
theorem dX10_read_15 : decode cX10_read 15 = .ok (.if_icmp .eq 15, 3) := by decide +kernel
theorem dX10_read_18 : decode cX10_read 18 = .ok (.iload_n 2, 1) := by decide +kernel
theorem dX10_read_19 : decode cX10_read 19 = .ok (.iconst 0, 1) := by decide +kernel
theorem dX10_read_20 : decode cX10_read 20 = .ok (.bipush 100, 2) := by decide +kernel
theorem dX10_read_22 : decode cX10_read 22 = .ok (.invokestatic 66, 3) := by decide +kernel
theorem dX10_read_25 : decode cX10_read 25 = .ok (.ifCond .ne 5, 3) := by decide +kernel
theorem dX10_read_28 : decode cX10_read 28 = .ok (.iconst (-1), 1) := by decide +kernel
theorem dX10_read_29 : decode cX10_read 29 = .ok (.ireturn, 1) := by decide +kernel
theorem dX10_read_30 : decode cX10_read 30 = .ok (.aload_n 3, 1) := by decide +kernel
theorem dX10_read_31 : decode cX10_read 31 = .ok (.getfield 112, 3) := by decide +kernel
theorem dX10_read_34 : decode cX10_read 34 = .ok (.istore 4, 2) := by decide +kernel
theorem dX10_read_36 : decode cX10_read 36 = .ok (.iload_n 2, 1) := by decide +kernel
theorem dX10_read_37 : decode cX10_read 37 = .ok (.bipush (-9), 2) := by decide +kernel
theorem dX10_read_39 : decode cX10_read 39 = .ok (.if_icmp .eq 8, 3) := by decide +kernel
theorem dX10_read_42 : decode cX10_read 42 = .ok (.aload_n 3, 1) := by decide +kernel
theorem dX10_read_43 : decode cX10_read 43 = .ok (.iload_n 2, 1) := by decide +kernel
theorem dX10_read_44 : decode cX10_read 44 = .ok (.putfield 112, 3) := by decide +kernel
theorem dX10_read_47 : decode cX10_read 47 = .ok (.iload 4, 2) := by decide +kernel
theorem dX10_read_49 : decode cX10_read 49 = .ok (.ireturn, 1) := by decide +kernel
theorem dX10_drying_0 : decode cX10_drying 0 = .ok (.aload_n 0, 1) := by decide +kernel
theorem dX10_drying_1 : decode cX10_drying 1 = .ok (.iload_n 1, 1) := by decide +kernel
theorem dX10_drying_2 : decode cX10_drying 2 = .ok (.invokevirtual 108, 3) := by decide +kernel
theorem dX10_drying_5 : decode cX10_drying 5 = .ok (.astore_n 3, 1) := by decide +kernel
theorem dX10_drying_6 : decode cX10_drying 6 = .ok (.aload_n 3, 1) := by decide +kernel
theorem dX10_drying_7 : decode cX10_drying 7 = .ok (.ifnull 13, 3) := by decide +kernel
theorem dX10_drying_10 : decode cX10_drying 10 = .ok (.iload_n 2, 1) := by decide +kernel
theorem dX10_drying_11 : decode cX10_drying 11 = .ok (.iconst 0, 1) := by decide +kernel
theorem dX10_drying_12 : decode cX10_drying 12 = .ok (.bipush 100, 2) := by decide +kernel
theorem dX10_drying_14 : decode cX10_drying 14 = .ok (.invokestatic 66, 3) := by decide +kernel
theorem dX10_drying_17 : decode cX10_drying 17 = .ok (.ifCond .ne 5, 3) := by decide +kernel
theorem dX10_drying_20 : decode cX10_drying 20 = .ok (.iconst (-1), 1) := by decide +kernel
theorem dX10_drying_21 : decode cX10_drying 21 = .ok (.ireturn, 1) := by decide +kernel
theorem dX10_drying_22 : decode cX10_drying 22 = .ok (.aload_n 0, 1) := by decide +kernel
theorem dX10_drying_23 : decode cX10_drying 23 = .ok (.dup, 1) := by decide +kernel
theorem dX10_drying_24 : decode cX10_drying 24 = .ok (.getfield 62, 3) := by decide +kernel
theorem dX10_drying_27 : decode cX10_drying 27 = .ok (.aload_n 3, 1) := by decide +kernel
theorem dX10_drying_28 : decode cX10_drying 28 = .ok (.getfield 115, 3) := by decide +kernel
theorem dX10_drying_31 : decode cX10_drying 31 = .ok (.invokevirtual 119, 3) := by decide +kernel
theorem dX10_drying_34 : decode cX10_drying 34 = .ok (.i2l, 1) := by decide +kernel
theorem dX10_drying_35 : decode cX10_drying 35 = .ok (.ladd, 1) := by decide +kernel
theorem dX10_drying_36 : decode cX10_drying 36 = .ok (.putfield 62, 3) := by decide +kernel
theorem dX10_drying_39 : decode cX10_drying 39 = .ok (.aload_n 3, 1) := by decide +kernel
theorem dX10_drying_40 : decode cX10_drying 40 = .ok (.getfield 115, 3) := by decide +kernel
theorem dX10_drying_43 : decode cX10_drying 43 = .ok (.iload_n 2, 1) := by decide +kernel
theorem dX10_drying_44 : decode cX10_drying 44 = .ok (.invokevirtual 124, 3) := by decide +kernel
theorem dX10_drying_47 : decode cX10_drying 47 = .ok (.ireturn, 1) := by decide +kernel
theorem dX10_waits_0 : decode cX10_waits 0 = .ok (.iload_n 1, 1) := by decide +kernel
theorem dX10_waits_1 : decode cX10_waits 1 = .ok (.iconst 1, 1) := by decide +kernel
theorem dX10_waits_2 : decode cX10_waits 2 = .ok (.bipush 24, 2) := by decide +kernel
theorem dX10_waits_4 : decode cX10_waits 4 = .ok (.invokestatic 66, 3) := by decide +kernel
theorem dX10_waits_7 : decode cX10_waits 7 = .ok (.ifCond .ne 5, 3) := by decide +kernel
theorem dX10_waits_10 : decode cX10_waits 10 = .ok (.iconst (-1), 1) := by decide +kernel
theorem dX10_waits_11 : decode cX10_waits 11 = .ok (.ireturn, 1) := by decide +kernel
theorem dX10_waits_12 : decode cX10_waits 12 = .ok (.aload_n 0, 1) := by decide +kernel
theorem dX10_waits_13 : decode cX10_waits 13 = .ok (.getfield 59, 3) := by decide +kernel
theorem dX10_waits_16 : decode cX10_waits 16 = .ok (.istore_n 2, 1) := by decide +kernel
theorem dX10_waits_17 : decode cX10_waits 17 = .ok (.aload_n 0, 1) := by decide +kernel
theorem dX10_waits_18 : decode cX10_waits 18 = .ok (.iload_n 1, 1) := by decide +kernel
theorem dX10_waits_19 : decode cX10_waits 19 = .ok (.putfield 59, 3) := by decide +kernel
theorem dX10_waits_22 : decode cX10_waits 22 = .ok (.iload_n 2, 1) := by decide +kernel
theorem dX10_waits_23 : decode cX10_waits 23 = .ok (.ireturn, 1) := by decide +kernel
theorem dX10_hours_0 : decode cX10_hours 0 = .ok (.iload_n 1, 1) := by decide +kernel
theorem dX10_hours_1 : decode cX10_hours 1 = .ok (.iconst 1, 1) := by decide +kernel
theorem dX10_hours_2 : decode cX10_hours 2 = .ok (.bipush 24, 2) := by decide +kernel
theorem dX10_hours_4 : decode cX10_hours 4 = .ok (.invokestatic 66, 3) := by decide +kernel
theorem dX10_hours_7 : decode cX10_hours 7 = .ok (.ifCond .ne 5, 3) := by decide +kernel
theorem dX10_hours_10 : decode cX10_hours 10 = .ok (.iconst (-1), 1) := by decide +kernel
theorem dX10_hours_11 : decode cX10_hours 11 = .ok (.ireturn, 1) := by decide +kernel
theorem dX10_hours_12 : decode cX10_hours 12 = .ok (.aload_n 0, 1) := by decide +kernel
theorem dX10_hours_13 : decode cX10_hours 13 = .ok (.getfield 55, 3) := by decide +kernel
theorem dX10_hours_16 : decode cX10_hours 16 = .ok (.iload_n 1, 1) := by decide +kernel
theorem dX10_hours_17 : decode cX10_hours 17 = .ok (.iadd, 1) := by decide +kernel
theorem dX10_hours_18 : decode cX10_hours 18 = .ok (.sipush 480, 3) := by decide +kernel
theorem dX10_hours_21 : decode cX10_hours 21 = .ok (.if_icmp .le 6, 3) := by decide +kernel
theorem dX10_hours_24 : decode cX10_hours 24 = .ok (.bipush (-2), 2) := by decide +kernel
theorem dX10_hours_26 : decode cX10_hours 26 = .ok (.ireturn, 1) := by decide +kernel
theorem dX10_hours_27 : decode cX10_hours 27 = .ok (.iconst 0, 1) := by decide +kernel
theorem dX10_hours_28 : decode cX10_hours 28 = .ok (.istore_n 2, 1) := by decide +kernel
theorem dX10_hours_29 : decode cX10_hours 29 = .ok (.iload_n 2, 1) := by decide +kernel
theorem dX10_hours_30 : decode cX10_hours 30 = .ok (.iload_n 1, 1) := by decide +kernel
theorem dX10_hours_31 : decode cX10_hours 31 = .ok (.if_icmp .ge 13, 3) := by decide +kernel
theorem dX10_hours_34 : decode cX10_hours 34 = .ok (.aload_n 0, 1) := by decide +kernel
theorem dX10_hours_35 : decode cX10_hours 35 = .ok (.invokevirtual 128, 3) := by decide +kernel
theorem dX10_hours_38 : decode cX10_hours 38 = .ok (.iinc 2 1, 3) := by decide +kernel
theorem dX10_hours_41 : decode cX10_hours 41 = .ok (.goto (-12), 3) := by decide +kernel
theorem dX10_hours_44 : decode cX10_hours 44 = .ok (.aload_n 0, 1) := by decide +kernel
theorem dX10_hours_45 : decode cX10_hours 45 = .ok (.getfield 55, 3) := by decide +kernel
theorem dX10_hours_48 : decode cX10_hours 48 = .ok (.ireturn, 1) := by decide +kernel
theorem dX10_about_0 : decode cX10_about 0 = .ok (.aload_n 0, 1) := by decide +kernel
theorem dX10_about_1 : decode cX10_about 1 = .ok (.iload_n 1, 1) := by decide +kernel
theorem dX10_about_2 : decode cX10_about 2 = .ok (.invokevirtual 92, 3) := by decide +kernel
theorem dX10_about_5 : decode cX10_about 5 = .ok (.astore_n 3, 1) := by decide +kernel
theorem dX10_about_6 : decode cX10_about 6 = .ok (.aload_n 3, 1) := by decide +kernel
theorem dX10_about_7 : decode cX10_about 7 = .ok (.ifnonnull 5, 3) := by decide +kernel
theorem dX10_about_10 : decode cX10_about 10 = .ok (.iconst (-1), 1) := by decide +kernel
theorem dX10_about_11 : decode cX10_about 11 = .ok (.ireturn, 1) := by decide +kernel
theorem dX10_about_12 : decode cX10_about 12 = .ok (.iload_n 2, 1) := by decide +kernel
theorem dX10_about_13 : decode cX10_about 13 = .ok (.tableswitch 74 0 5 #[39, 44, 49, 58, 64, 69], 39) := by decide +kernel
theorem dX10_about_52 : decode cX10_about 52 = .ok (.aload_n 3, 1) := by decide +kernel
theorem dX10_about_53 : decode cX10_about 53 = .ok (.getfield 131, 3) := by decide +kernel
theorem dX10_about_56 : decode cX10_about 56 = .ok (.ireturn, 1) := by decide +kernel
theorem dX10_about_57 : decode cX10_about 57 = .ok (.aload_n 3, 1) := by decide +kernel
theorem dX10_about_58 : decode cX10_about 58 = .ok (.getfield 134, 3) := by decide +kernel
theorem dX10_about_61 : decode cX10_about 61 = .ok (.ireturn, 1) := by decide +kernel
theorem dX10_about_62 : decode cX10_about 62 = .ok (.aload_n 0, 1) := by decide +kernel
theorem dX10_about_63 : decode cX10_about 63 = .ok (.getfield 25, 3) := by decide +kernel
theorem dX10_about_66 : decode cX10_about 66 = .ok (.iload_n 1, 1) := by decide +kernel
theorem dX10_about_67 : decode cX10_about 67 = .ok (.invokevirtual 137, 3) := by decide +kernel
theorem dX10_about_70 : decode cX10_about 70 = .ok (.ireturn, 1) := by decide +kernel
theorem dX10_about_71 : decode cX10_about 71 = .ok (.aload_n 0, 1) := by decide +kernel
theorem dX10_about_72 : decode cX10_about 72 = .ok (.iload_n 1, 1) := by decide +kernel
theorem dX10_about_73 : decode cX10_about 73 = .ok (.invokevirtual 140, 3) := by decide +kernel
theorem dX10_about_76 : decode cX10_about 76 = .ok (.ireturn, 1) := by decide +kernel
theorem dX10_about_77 : decode cX10_about 77 = .ok (.aload_n 3, 1) := by decide +kernel
theorem dX10_about_78 : decode cX10_about 78 = .ok (.getfield 143, 3) := by decide +kernel
theorem dX10_about_81 : decode cX10_about 81 = .ok (.ireturn, 1) := by decide +kernel
theorem dX10_about_82 : decode cX10_about 82 = .ok (.aload_n 3, 1) := by decide +kernel
theorem dX10_about_83 : decode cX10_about 83 = .ok (.getfield 146, 3) := by decide +kernel
theorem dX10_about_86 : decode cX10_about 86 = .ok (.ireturn, 1) := by decide +kernel
theorem dX10_about_87 : decode cX10_about 87 = .ok (.iconst (-1), 1) := by decide +kernel
theorem dX10_about_88 : decode cX10_about 88 = .ok (.ireturn, 1) := by decide +kernel
theorem dX10_tally_0 : decode cX10_tally 0 = .ok (.aload_n 0, 1) := by decide +kernel
theorem dX10_tally_1 : decode cX10_tally 1 = .ok (.iload_n 1, 1) := by decide +kernel
theorem dX10_tally_2 : decode cX10_tally 2 = .ok (.invokevirtual 88, 3) := by decide +kernel
theorem dX10_tally_5 : decode cX10_tally 5 = .ok (.astore_n 3, 1) := by decide +kernel
theorem dX10_tally_6 : decode cX10_tally 6 = .ok (.aload_n 3, 1) := by decide +kernel
theorem dX10_tally_7 : decode cX10_tally 7 = .ok (.ifnonnull 6, 3) := by decide +kernel
theorem dX10_tally_10 : decode cX10_tally 10 = .ok (.bipush (-2), 2) := by decide +kernel
theorem dX10_tally_12 : decode cX10_tally 12 = .ok (.ireturn, 1) := by decide +kernel
theorem dX10_tally_13 : decode cX10_tally 13 = .ok (.iload_n 2, 1) := by decide +kernel
theorem dX10_tally_14 : decode cX10_tally 14 = .ok (.tableswitch 50 0 3 #[30, 35, 40, 45], 30) := by decide +kernel
theorem dX10_tally_44 : decode cX10_tally 44 = .ok (.aload_n 3, 1) := by decide +kernel
theorem dX10_tally_45 : decode cX10_tally 45 = .ok (.getfield 149, 3) := by decide +kernel
theorem dX10_tally_48 : decode cX10_tally 48 = .ok (.ireturn, 1) := by decide +kernel
theorem dX10_tally_49 : decode cX10_tally 49 = .ok (.aload_n 3, 1) := by decide +kernel
theorem dX10_tally_50 : decode cX10_tally 50 = .ok (.getfield 150, 3) := by decide +kernel
theorem dX10_tally_53 : decode cX10_tally 53 = .ok (.ireturn, 1) := by decide +kernel
theorem dX10_tally_54 : decode cX10_tally 54 = .ok (.aload_n 3, 1) := by decide +kernel
theorem dX10_tally_55 : decode cX10_tally 55 = .ok (.getfield 153, 3) := by decide +kernel
theorem dX10_tally_58 : decode cX10_tally 58 = .ok (.ireturn, 1) := by decide +kernel
theorem dX10_tally_59 : decode cX10_tally 59 = .ok (.aload_n 3, 1) := by decide +kernel
theorem dX10_tally_60 : decode cX10_tally 60 = .ok (.getfield 96, 3) := by decide +kernel
theorem dX10_tally_63 : decode cX10_tally 63 = .ok (.ireturn, 1) := by decide +kernel
theorem dX10_tally_64 : decode cX10_tally 64 = .ok (.bipush (-2), 2) := by decide +kernel
theorem dX10_tally_66 : decode cX10_tally 66 = .ok (.ireturn, 1) := by decide +kernel
theorem dX10_in_0 : decode cX10_in 0 = .ok (.aload_n 0, 1) := by decide +kernel
theorem dX10_in_1 : decode cX10_in 1 = .ok (.iload_n 1, 1) := by decide +kernel
theorem dX10_in_2 : decode cX10_in 2 = .ok (.invokevirtual 108, 3) := by decide +kernel
theorem dX10_in_5 : decode cX10_in 5 = .ok (.astore_n 3, 1) := by decide +kernel
theorem dX10_in_6 : decode cX10_in 6 = .ok (.aload_n 3, 1) := by decide +kernel
theorem dX10_in_7 : decode cX10_in 7 = .ok (.ifnonnull 5, 3) := by decide +kernel
theorem dX10_in_10 : decode cX10_in 10 = .ok (.iconst (-1), 1) := by decide +kernel
theorem dX10_in_11 : decode cX10_in 11 = .ok (.ireturn, 1) := by decide +kernel
theorem dX10_in_12 : decode cX10_in 12 = .ok (.iload_n 2, 1) := by decide +kernel
theorem dX10_in_13 : decode cX10_in 13 = .ok (.tableswitch 51 0 3 #[31, 36, 41, 46], 31) := by decide +kernel
theorem dX10_in_44 : decode cX10_in 44 = .ok (.aload_n 3, 1) := by decide +kernel
theorem dX10_in_45 : decode cX10_in 45 = .ok (.getfield 156, 3) := by decide +kernel
theorem dX10_in_48 : decode cX10_in 48 = .ok (.ireturn, 1) := by decide +kernel
theorem dX10_in_49 : decode cX10_in 49 = .ok (.aload_n 3, 1) := by decide +kernel
theorem dX10_in_50 : decode cX10_in 50 = .ok (.getfield 159, 3) := by decide +kernel
theorem dX10_in_53 : decode cX10_in 53 = .ok (.ireturn, 1) := by decide +kernel
theorem dX10_in_54 : decode cX10_in 54 = .ok (.aload_n 3, 1) := by decide +kernel
theorem dX10_in_55 : decode cX10_in 55 = .ok (.getfield 112, 3) := by decide +kernel
theorem dX10_in_58 : decode cX10_in 58 = .ok (.ireturn, 1) := by decide +kernel
theorem dX10_in_59 : decode cX10_in 59 = .ok (.aload_n 3, 1) := by decide +kernel
theorem dX10_in_60 : decode cX10_in 60 = .ok (.invokevirtual 162, 3) := by decide +kernel
theorem dX10_in_63 : decode cX10_in 63 = .ok (.ireturn, 1) := by decide +kernel
theorem dX10_in_64 : decode cX10_in 64 = .ok (.iconst (-1), 1) := by decide +kernel
theorem dX10_in_65 : decode cX10_in 65 = .ok (.ireturn, 1) := by decide +kernel
theorem dX10_green_0 : decode cX10_green 0 = .ok (.iload_n 1, 1) := by decide +kernel
theorem dX10_green_1 : decode cX10_green 1 = .ok (.iconst 0, 1) := by decide +kernel
theorem dX10_green_2 : decode cX10_green 2 = .ok (.bipush 23, 2) := by decide +kernel
theorem dX10_green_4 : decode cX10_green 4 = .ok (.invokestatic 66, 3) := by decide +kernel
theorem dX10_green_7 : decode cX10_green 7 = .ok (.ifCond .ne 5, 3) := by decide +kernel
theorem dX10_green_10 : decode cX10_green 10 = .ok (.iconst (-1), 1) := by decide +kernel
theorem dX10_green_11 : decode cX10_green 11 = .ok (.ireturn, 1) := by decide +kernel
theorem dX10_green_12 : decode cX10_green 12 = .ok (.aload_n 0, 1) := by decide +kernel
theorem dX10_green_13 : decode cX10_green 13 = .ok (.getfield 25, 3) := by decide +kernel
theorem dX10_green_16 : decode cX10_green 16 = .ok (.aload_n 0, 1) := by decide +kernel
theorem dX10_green_17 : decode cX10_green 17 = .ok (.getfield 55, 3) := by decide +kernel
theorem dX10_green_20 : decode cX10_green 20 = .ok (.iconst 1, 1) := by decide +kernel
theorem dX10_green_21 : decode cX10_green 21 = .ok (.isub, 1) := by decide +kernel
theorem dX10_green_22 : decode cX10_green 22 = .ok (.iload_n 1, 1) := by decide +kernel
theorem dX10_green_23 : decode cX10_green 23 = .ok (.isub, 1) := by decide +kernel
theorem dX10_green_24 : decode cX10_green 24 = .ok (.invokevirtual 165, 3) := by decide +kernel
theorem dX10_green_27 : decode cX10_green 27 = .ok (.ireturn, 1) := by decide +kernel
theorem dX10_pocket_0 : decode cX10_pocket 0 = .ok (.iload_n 1, 1) := by decide +kernel
theorem dX10_pocket_1 : decode cX10_pocket 1 = .ok (.iconst 0, 1) := by decide +kernel
theorem dX10_pocket_2 : decode cX10_pocket 2 = .ok (.aload_n 0, 1) := by decide +kernel
theorem dX10_pocket_3 : decode cX10_pocket 3 = .ok (.getfield 32, 3) := by decide +kernel
theorem dX10_pocket_6 : decode cX10_pocket 6 = .ok (.invokevirtual 168, 3) := by decide +kernel
theorem dX10_pocket_9 : decode cX10_pocket 9 = .ok (.iconst 1, 1) := by decide +kernel
theorem dX10_pocket_10 : decode cX10_pocket 10 = .ok (.isub, 1) := by decide +kernel
theorem dX10_pocket_11 : decode cX10_pocket 11 = .ok (.invokestatic 66, 3) := by decide +kernel
theorem dX10_pocket_14 : decode cX10_pocket 14 = .ok (.ifCond .ne 5, 3) := by decide +kernel
theorem dX10_pocket_17 : decode cX10_pocket 17 = .ok (.iconst (-1), 1) := by decide +kernel
theorem dX10_pocket_18 : decode cX10_pocket 18 = .ok (.ireturn, 1) := by decide +kernel
theorem dX10_pocket_19 : decode cX10_pocket 19 = .ok (.iload_n 2, 1) := by decide +kernel
theorem dX10_pocket_20 : decode cX10_pocket 20 = .ok (.tableswitch 65 0 2 #[28, 38, 48], 28) := by decide +kernel
theorem dX10_pocket_48 : decode cX10_pocket 48 = .ok (.aload_n 0, 1) := by decide +kernel
theorem dX10_pocket_49 : decode cX10_pocket 49 = .ok (.getfield 32, 3) := by decide +kernel
theorem dX10_pocket_52 : decode cX10_pocket 52 = .ok (.getfield 171, 3) := by decide +kernel
theorem dX10_pocket_55 : decode cX10_pocket 55 = .ok (.iload_n 1, 1) := by decide +kernel
theorem dX10_pocket_56 : decode cX10_pocket 56 = .ok (.iaload, 1) := by decide +kernel
theorem dX10_pocket_57 : decode cX10_pocket 57 = .ok (.ireturn, 1) := by decide +kernel
theorem dX10_pocket_58 : decode cX10_pocket 58 = .ok (.aload_n 0, 1) := by decide +kernel
theorem dX10_pocket_59 : decode cX10_pocket 59 = .ok (.getfield 32, 3) := by decide +kernel
theorem dX10_pocket_62 : decode cX10_pocket 62 = .ok (.getfield 174, 3) := by decide +kernel
theorem dX10_pocket_65 : decode cX10_pocket 65 = .ok (.iload_n 1, 1) := by decide +kernel
theorem dX10_pocket_66 : decode cX10_pocket 66 = .ok (.iaload, 1) := by decide +kernel
theorem dX10_pocket_67 : decode cX10_pocket 67 = .ok (.ireturn, 1) := by decide +kernel
theorem dX10_pocket_68 : decode cX10_pocket 68 = .ok (.aload_n 0, 1) := by decide +kernel
theorem dX10_pocket_69 : decode cX10_pocket 69 = .ok (.getfield 45, 3) := by decide +kernel
theorem dX10_pocket_72 : decode cX10_pocket 72 = .ok (.aload_n 0, 1) := by decide +kernel
theorem dX10_pocket_73 : decode cX10_pocket 73 = .ok (.getfield 32, 3) := by decide +kernel
theorem dX10_pocket_76 : decode cX10_pocket 76 = .ok (.getfield 174, 3) := by decide +kernel
theorem dX10_pocket_79 : decode cX10_pocket 79 = .ok (.iload_n 1, 1) := by decide +kernel
theorem dX10_pocket_80 : decode cX10_pocket 80 = .ok (.iaload, 1) := by decide +kernel
theorem dX10_pocket_81 : decode cX10_pocket 81 = .ok (.invokevirtual 177, 3) := by decide +kernel
theorem dX10_pocket_84 : decode cX10_pocket 84 = .ok (.ireturn, 1) := by decide +kernel
theorem dX10_pocket_85 : decode cX10_pocket 85 = .ok (.iconst (-1), 1) := by decide +kernel
theorem dX10_pocket_86 : decode cX10_pocket 86 = .ok (.ireturn, 1) := by decide +kernel
theorem dX10_count_0 : decode cX10_count 0 = .ok (.iload_n 1, 1) := by decide +kernel
theorem dX10_count_1 : decode cX10_count 1 = .ok (.tableswitch 123 0 9 #[55, 60, 68, 76, 84, 92, 100, 105, 110, 118], 55) := by decide +kernel
theorem dX10_count_56 : decode cX10_count 56 = .ok (.aload_n 0, 1) := by decide +kernel
theorem dX10_count_57 : decode cX10_count 57 = .ok (.getfield 55, 3) := by decide +kernel
theorem dX10_count_60 : decode cX10_count 60 = .ok (.ireturn, 1) := by decide +kernel
theorem dX10_count_61 : decode cX10_count 61 = .ok (.aload_n 0, 1) := by decide +kernel
theorem dX10_count_62 : decode cX10_count 62 = .ok (.getfield 10, 3) := by decide +kernel
theorem dX10_count_65 : decode cX10_count 65 = .ok (.invokevirtual 70, 3) := by decide +kernel
theorem dX10_count_68 : decode cX10_count 68 = .ok (.ireturn, 1) := by decide +kernel
theorem dX10_count_69 : decode cX10_count 69 = .ok (.aload_n 0, 1) := by decide +kernel
theorem dX10_count_70 : decode cX10_count 70 = .ok (.getfield 16, 3) := by decide +kernel
theorem dX10_count_73 : decode cX10_count 73 = .ok (.invokevirtual 70, 3) := by decide +kernel
theorem dX10_count_76 : decode cX10_count 76 = .ok (.ireturn, 1) := by decide +kernel
theorem dX10_count_77 : decode cX10_count 77 = .ok (.aload_n 0, 1) := by decide +kernel
theorem dX10_count_78 : decode cX10_count 78 = .ok (.getfield 19, 3) := by decide +kernel
theorem dX10_count_81 : decode cX10_count 81 = .ok (.invokevirtual 70, 3) := by decide +kernel
theorem dX10_count_84 : decode cX10_count 84 = .ok (.ireturn, 1) := by decide +kernel
theorem dX10_count_85 : decode cX10_count 85 = .ok (.aload_n 0, 1) := by decide +kernel
theorem dX10_count_86 : decode cX10_count 86 = .ok (.getfield 32, 3) := by decide +kernel
theorem dX10_count_89 : decode cX10_count 89 = .ok (.getfield 180, 3) := by decide +kernel
theorem dX10_count_92 : decode cX10_count 92 = .ok (.ireturn, 1) := by decide +kernel
theorem dX10_count_93 : decode cX10_count 93 = .ok (.aload_n 0, 1) := by decide +kernel
theorem dX10_count_94 : decode cX10_count 94 = .ok (.getfield 32, 3) := by decide +kernel
theorem dX10_count_97 : decode cX10_count 97 = .ok (.getfield 183, 3) := by decide +kernel
theorem dX10_count_100 : decode cX10_count 100 = .ok (.ireturn, 1) := by decide +kernel
theorem dX10_count_101 : decode cX10_count 101 = .ok (.aload_n 0, 1) := by decide +kernel
theorem dX10_count_102 : decode cX10_count 102 = .ok (.invokevirtual 186, 3) := by decide +kernel
theorem dX10_count_105 : decode cX10_count 105 = .ok (.ireturn, 1) := by decide +kernel
theorem dX10_count_106 : decode cX10_count 106 = .ok (.aload_n 0, 1) := by decide +kernel
theorem dX10_count_107 : decode cX10_count 107 = .ok (.invokevirtual 189, 3) := by decide +kernel
theorem dX10_count_110 : decode cX10_count 110 = .ok (.ireturn, 1) := by decide +kernel
theorem dX10_count_111 : decode cX10_count 111 = .ok (.aload_n 0, 1) := by decide +kernel
theorem dX10_count_112 : decode cX10_count 112 = .ok (.getfield 25, 3) := by decide +kernel
theorem dX10_count_115 : decode cX10_count 115 = .ok (.getfield 192, 3) := by decide +kernel
theorem dX10_count_118 : decode cX10_count 118 = .ok (.ireturn, 1) := by decide +kernel
theorem dX10_count_119 : decode cX10_count 119 = .ok (.aload_n 0, 1) := by decide +kernel
theorem dX10_count_120 : decode cX10_count 120 = .ok (.invokevirtual 195, 3) := by decide +kernel
theorem dX10_count_123 : decode cX10_count 123 = .ok (.ireturn, 1) := by decide +kernel
theorem dX10_count_124 : decode cX10_count 124 = .ok (.iconst (-1), 1) := by decide +kernel
theorem dX10_count_125 : decode cX10_count 125 = .ok (.ireturn, 1) := by decide +kernel
theorem dX10_price_0 : decode cX10_price 0 = .ok (.iload_n 1, 1) := by decide +kernel
theorem dX10_price_1 : decode cX10_price 1 = .ok (.aload_n 0, 1) := by decide +kernel
theorem dX10_price_2 : decode cX10_price 2 = .ok (.getfield 55, 3) := by decide +kernel
theorem dX10_price_5 : decode cX10_price 5 = .ok (.sipush 480, 3) := by decide +kernel
theorem dX10_price_8 : decode cX10_price 8 = .ok (.invokestatic 66, 3) := by decide +kernel
theorem dX10_price_11 : decode cX10_price 11 = .ok (.ifCond .eq 13, 3) := by decide +kernel
theorem dX10_price_14 : decode cX10_price 14 = .ok (.iload_n 2, 1) := by decide +kernel
theorem dX10_price_15 : decode cX10_price 15 = .ok (.iconst 1, 1) := by decide +kernel
theorem dX10_price_16 : decode cX10_price 16 = .ok (.bipush 50, 2) := by decide +kernel
theorem dX10_price_18 : decode cX10_price 18 = .ok (.invokestatic 66, 3) := by decide +kernel
theorem dX10_price_21 : decode cX10_price 21 = .ok (.ifCond .ne 5, 3) := by decide +kernel
theorem dX10_price_24 : decode cX10_price 24 = .ok (.iconst (-1), 1) := by decide +kernel
theorem dX10_price_25 : decode cX10_price 25 = .ok (.ireturn, 1) := by decide +kernel
theorem dX10_price_26 : decode cX10_price 26 = .ok (.aload_n 0, 1) := by decide +kernel
theorem dX10_price_27 : decode cX10_price 27 = .ok (.getfield 41, 3) := by decide +kernel
theorem dX10_price_30 : decode cX10_price 30 = .ok (.iload_n 1, 1) := by decide +kernel
theorem dX10_price_31 : decode cX10_price 31 = .ok (.iload_n 2, 1) := by decide +kernel
theorem dX10_price_32 : decode cX10_price 32 = .ok (.invokevirtual 198, 3) := by decide +kernel
theorem dX10_price_35 : decode cX10_price 35 = .ok (.ifCond .eq 7, 3) := by decide +kernel
theorem dX10_price_38 : decode cX10_price 38 = .ok (.iconst 1, 1) := by decide +kernel
theorem dX10_price_39 : decode cX10_price 39 = .ok (.goto 5, 3) := by decide +kernel
theorem dX10_price_42 : decode cX10_price 42 = .ok (.bipush (-3), 2) := by decide +kernel
theorem dX10_price_44 : decode cX10_price 44 = .ok (.ireturn, 1) := by decide +kernel
theorem dX10_priced_0 : decode cX10_priced 0 = .ok (.iload_n 1, 1) := by decide +kernel
theorem dX10_priced_1 : decode cX10_priced 1 = .ok (.iconst 0, 1) := by decide +kernel
theorem dX10_priced_2 : decode cX10_priced 2 = .ok (.sipush 480, 3) := by decide +kernel
theorem dX10_priced_5 : decode cX10_priced 5 = .ok (.invokestatic 66, 3) := by decide +kernel
theorem dX10_priced_8 : decode cX10_priced 8 = .ok (.ifCond .ne 5, 3) := by decide +kernel
theorem dX10_priced_11 : decode cX10_priced 11 = .ok (.iconst (-1), 1) := by decide +kernel
theorem dX10_priced_12 : decode cX10_priced 12 = .ok (.ireturn, 1) := by decide +kernel
theorem dX10_priced_13 : decode cX10_priced 13 = .ok (.aload_n 0, 1) := by decide +kernel
theorem dX10_priced_14 : decode cX10_priced 14 = .ok (.getfield 41, 3) := by decide +kernel
theorem dX10_priced_17 : decode cX10_priced 17 = .ok (.iload_n 1, 1) := by decide +kernel
theorem dX10_priced_18 : decode cX10_priced 18 = .ok (.invokevirtual 177, 3) := by decide +kernel
theorem dX10_priced_21 : decode cX10_priced 21 = .ok (.ireturn, 1) := by decide +kernel
theorem dX10_act_0 : decode cX10_act 0 = .ok (.iload_n 1, 1) := by decide +kernel
theorem dX10_act_1 : decode cX10_act 1 = .ok (.iconst 0, 1) := by decide +kernel
theorem dX10_act_2 : decode cX10_act 2 = .ok (.bipush 40, 2) := by decide +kernel
theorem dX10_act_4 : decode cX10_act 4 = .ok (.invokestatic 66, 3) := by decide +kernel
theorem dX10_act_7 : decode cX10_act 7 = .ok (.ifCond .eq 13, 3) := by decide +kernel
theorem dX10_act_10 : decode cX10_act 10 = .ok (.iload_n 2, 1) := by decide +kernel
theorem dX10_act_11 : decode cX10_act 11 = .ok (.iconst 0, 1) := by decide +kernel
theorem dX10_act_12 : decode cX10_act 12 = .ok (.bipush 100, 2) := by decide +kernel
theorem dX10_act_14 : decode cX10_act 14 = .ok (.invokestatic 66, 3) := by decide +kernel
theorem dX10_act_17 : decode cX10_act 17 = .ok (.ifCond .ne 5, 3) := by decide +kernel
theorem dX10_act_20 : decode cX10_act 20 = .ok (.iconst (-1), 1) := by decide +kernel
theorem dX10_act_21 : decode cX10_act 21 = .ok (.ireturn, 1) := by decide +kernel
theorem dX10_act_22 : decode cX10_act 22 = .ok (.iload_n 1, 1) := by decide +kernel
theorem dX10_act_23 : decode cX10_act 23 = .ok (.bipush 12, 2) := by decide +kernel
theorem dX10_act_25 : decode cX10_act 25 = .ok (.imul, 1) := by decide +kernel
theorem dX10_act_26 : decode cX10_act 26 = .ok (.aload_n 0, 1) := by decide +kernel
theorem dX10_act_27 : decode cX10_act 27 = .ok (.getfield 55, 3) := by decide +kernel
theorem dX10_act_30 : decode cX10_act 30 = .ok (.if_icmp .gt 6, 3) := by decide +kernel
theorem dX10_act_33 : decode cX10_act 33 = .ok (.bipush (-2), 2) := by decide +kernel
theorem dX10_act_35 : decode cX10_act 35 = .ok (.ireturn, 1) := by decide +kernel
theorem dX10_act_36 : decode cX10_act 36 = .ok (.aload_n 0, 1) := by decide +kernel
theorem dX10_act_37 : decode cX10_act 37 = .ok (.getfield 45, 3) := by decide +kernel
theorem dX10_act_40 : decode cX10_act 40 = .ok (.iload_n 1, 1) := by decide +kernel
theorem dX10_act_41 : decode cX10_act 41 = .ok (.iload_n 2, 1) := by decide +kernel
theorem dX10_act_42 : decode cX10_act 42 = .ok (.invokevirtual 198, 3) := by decide +kernel
theorem dX10_act_45 : decode cX10_act 45 = .ok (.ifCond .eq 7, 3) := by decide +kernel
theorem dX10_act_48 : decode cX10_act 48 = .ok (.iconst 1, 1) := by decide +kernel
theorem dX10_act_49 : decode cX10_act 49 = .ok (.goto 5, 3) := by decide +kernel
theorem dX10_act_52 : decode cX10_act 52 = .ok (.bipush (-3), 2) := by decide +kernel
theorem dX10_act_54 : decode cX10_act 54 = .ok (.ireturn, 1) := by decide +kernel
theorem dX10_duty_0 : decode cX10_duty 0 = .ok (.iload_n 1, 1) := by decide +kernel
theorem dX10_duty_1 : decode cX10_duty 1 = .ok (.iconst 0, 1) := by decide +kernel
theorem dX10_duty_2 : decode cX10_duty 2 = .ok (.bipush 40, 2) := by decide +kernel
theorem dX10_duty_4 : decode cX10_duty 4 = .ok (.invokestatic 66, 3) := by decide +kernel
theorem dX10_duty_7 : decode cX10_duty 7 = .ok (.ifCond .ne 5, 3) := by decide +kernel
theorem dX10_duty_10 : decode cX10_duty 10 = .ok (.iconst (-1), 1) := by decide +kernel
theorem dX10_duty_11 : decode cX10_duty 11 = .ok (.ireturn, 1) := by decide +kernel
theorem dX10_duty_12 : decode cX10_duty 12 = .ok (.aload_n 0, 1) := by decide +kernel
theorem dX10_duty_13 : decode cX10_duty 13 = .ok (.getfield 45, 3) := by decide +kernel
theorem dX10_duty_16 : decode cX10_duty 16 = .ok (.iload_n 1, 1) := by decide +kernel
theorem dX10_duty_17 : decode cX10_duty 17 = .ok (.invokevirtual 177, 3) := by decide +kernel
theorem dX10_duty_20 : decode cX10_duty 20 = .ok (.ireturn, 1) := by decide +kernel
theorem dX10_bound_0 : decode cX10_bound 0 = .ok (.iconst 0, 1) := by decide +kernel
theorem dX10_bound_1 : decode cX10_bound 1 = .ok (.istore_n 1, 1) := by decide +kernel
theorem dX10_bound_2 : decode cX10_bound 2 = .ok (.iconst 0, 1) := by decide +kernel
theorem dX10_bound_3 : decode cX10_bound 3 = .ok (.istore_n 2, 1) := by decide +kernel
theorem dX10_bound_4 : decode cX10_bound 4 = .ok (.iload_n 2, 1) := by decide +kernel
theorem dX10_bound_5 : decode cX10_bound 5 = .ok (.aload_n 0, 1) := by decide +kernel
theorem dX10_bound_6 : decode cX10_bound 6 = .ok (.getfield 19, 3) := by decide +kernel
theorem dX10_bound_9 : decode cX10_bound 9 = .ok (.invokevirtual 70, 3) := by decide +kernel
theorem dX10_bound_12 : decode cX10_bound 12 = .ok (.if_icmp .ge 26, 3) := by decide +kernel
theorem dX10_bound_15 : decode cX10_bound 15 = .ok (.iload_n 1, 1) := by decide +kernel
theorem dX10_bound_16 : decode cX10_bound 16 = .ok (.aload_n 0, 1) := by decide +kernel
theorem dX10_bound_17 : decode cX10_bound 17 = .ok (.getfield 19, 3) := by decide +kernel
theorem dX10_bound_20 : decode cX10_bound 20 = .ok (.iload_n 2, 1) := by decide +kernel
theorem dX10_bound_21 : decode cX10_bound 21 = .ok (.invokevirtual 202, 3) := by decide +kernel
theorem dX10_bound_24 : decode cX10_bound 24 = .ok (.checkcast 99, 3) := by decide +kernel
theorem dX10_bound_27 : decode cX10_bound 27 = .ok (.invokevirtual 206, 3) := by decide +kernel
theorem dX10_bound_30 : decode cX10_bound 30 = .ok (.iadd, 1) := by decide +kernel
theorem dX10_bound_31 : decode cX10_bound 31 = .ok (.istore_n 1, 1) := by decide +kernel
theorem dX10_bound_32 : decode cX10_bound 32 = .ok (.iinc 2 1, 3) := by decide +kernel
theorem dX10_bound_35 : decode cX10_bound 35 = .ok (.goto (-31), 3) := by decide +kernel
theorem dX10_bound_38 : decode cX10_bound 38 = .ok (.iload_n 1, 1) := by decide +kernel
theorem dX10_bound_39 : decode cX10_bound 39 = .ok (.ireturn, 1) := by decide +kernel
theorem dX10_most_0 : decode cX10_most 0 = .ok (.iload_n 1, 1) := by decide +kernel
theorem dX10_most_1 : decode cX10_most 1 = .ok (.iconst 0, 1) := by decide +kernel
theorem dX10_most_2 : decode cX10_most 2 = .ok (.bipush 40, 2) := by decide +kernel
theorem dX10_most_4 : decode cX10_most 4 = .ok (.invokestatic 66, 3) := by decide +kernel
theorem dX10_most_7 : decode cX10_most 7 = .ok (.ifCond .eq 12, 3) := by decide +kernel
theorem dX10_most_10 : decode cX10_most 10 = .ok (.iload_n 2, 1) := by decide +kernel
theorem dX10_most_11 : decode cX10_most 11 = .ok (.iconst 0, 1) := by decide +kernel
theorem dX10_most_12 : decode cX10_most 12 = .ok (.iconst 1, 1) := by decide +kernel
theorem dX10_most_13 : decode cX10_most 13 = .ok (.invokestatic 66, 3) := by decide +kernel
theorem dX10_most_16 : decode cX10_most 16 = .ok (.ifCond .ne 5, 3) := by decide +kernel
theorem dX10_most_19 : decode cX10_most 19 = .ok (.iconst (-1), 1) := by decide +kernel
theorem dX10_most_20 : decode cX10_most 20 = .ok (.ireturn, 1) := by decide +kernel
theorem dX10_most_21 : decode cX10_most 21 = .ok (.aload_n 0, 1) := by decide +kernel
theorem dX10_most_22 : decode cX10_most 22 = .ok (.getfield 51, 3) := by decide +kernel
theorem dX10_most_25 : decode cX10_most 25 = .ok (.aload_n 0, 1) := by decide +kernel
theorem dX10_most_26 : decode cX10_most 26 = .ok (.getfield 16, 3) := by decide +kernel
theorem dX10_most_29 : decode cX10_most 29 = .ok (.invokevirtual 209, 3) := by decide +kernel
theorem dX10_most_32 : decode cX10_most 32 = .ok (.iconst 0, 1) := by decide +kernel
theorem dX10_most_33 : decode cX10_most 33 = .ok (.istore_n 3, 1) := by decide +kernel
theorem dX10_most_34 : decode cX10_most 34 = .ok (.iload_n 3, 1) := by decide +kernel
theorem dX10_most_35 : decode cX10_most 35 = .ok (.aload_n 0, 1) := by decide +kernel
theorem dX10_most_36 : decode cX10_most 36 = .ok (.getfield 10, 3) := by decide +kernel
theorem dX10_most_39 : decode cX10_most 39 = .ok (.invokevirtual 70, 3) := by decide +kernel
theorem dX10_most_42 : decode cX10_most 42 = .ok (.if_icmp .ge 44, 3) := by decide +kernel
theorem dX10_most_45 : decode cX10_most 45 = .ok (.aload_n 0, 1) := by decide +kernel
theorem dX10_most_46 : decode cX10_most 46 = .ok (.getfield 10, 3) := by decide +kernel
theorem dX10_most_49 : decode cX10_most 49 = .ok (.iload_n 3, 1) := by decide +kernel
theorem dX10_most_50 : decode cX10_most 50 = .ok (.invokevirtual 202, 3) := by decide +kernel
theorem dX10_most_53 : decode cX10_most 53 = .ok (.checkcast 74, 3) := by decide +kernel
theorem dX10_most_56 : decode cX10_most 56 = .ok (.astore 4, 2) := by decide +kernel
theorem dX10_most_58 : decode cX10_most 58 = .ok (.aload 4, 2) := by decide +kernel
theorem dX10_most_60 : decode cX10_most 60 = .ok (.iload_n 1, 1) := by decide +kernel
theorem dX10_most_61 : decode cX10_most 61 = .ok (.invokevirtual 213, 3) := by decide +kernel
theorem dX10_most_64 : decode cX10_most 64 = .ok (.ifCond .eq 16, 3) := by decide +kernel
theorem dX10_most_67 : decode cX10_most 67 = .ok (.aload_n 0, 1) := by decide +kernel
theorem dX10_most_68 : decode cX10_most 68 = .ok (.getfield 51, 3) := by decide +kernel
theorem dX10_most_71 : decode cX10_most 71 = .ok (.iload_n 3, 1) := by decide +kernel
theorem dX10_most_72 : decode cX10_most 72 = .ok (.aload 4, 2) := by decide +kernel
theorem dX10_most_74 : decode cX10_most 74 = .ok (.getfield 131, 3) := by decide +kernel
theorem dX10_most_77 : decode cX10_most 77 = .ok (.invokevirtual 217, 3) := by decide +kernel
theorem dX10_most_80 : decode cX10_most 80 = .ok (.iinc 3 1, 3) := by decide +kernel
theorem dX10_most_83 : decode cX10_most 83 = .ok (.goto (-49), 3) := by decide +kernel
theorem dX10_most_86 : decode cX10_most 86 = .ok (.iload_n 2, 1) := by decide +kernel
theorem dX10_most_87 : decode cX10_most 87 = .ok (.ifCond .ne 13, 3) := by decide +kernel
theorem dX10_most_90 : decode cX10_most 90 = .ok (.aload_n 0, 1) := by decide +kernel
theorem dX10_most_91 : decode cX10_most 91 = .ok (.getfield 51, 3) := by decide +kernel
theorem dX10_most_94 : decode cX10_most 94 = .ok (.invokevirtual 220, 3) := by decide +kernel
theorem dX10_most_97 : decode cX10_most 97 = .ok (.goto 10, 3) := by decide +kernel
theorem dX10_most_100 : decode cX10_most 100 = .ok (.aload_n 0, 1) := by decide +kernel
theorem dX10_most_101 : decode cX10_most 101 = .ok (.getfield 51, 3) := by decide +kernel
theorem dX10_most_104 : decode cX10_most 104 = .ok (.invokevirtual 222, 3) := by decide +kernel
theorem dX10_most_107 : decode cX10_most 107 = .ok (.ireturn, 1) := by decide +kernel
theorem dX10_trace_0 : decode cX10_trace 0 = .ok (.aload_n 0, 1) := by decide +kernel
theorem dX10_trace_1 : decode cX10_trace 1 = .ok (.getfield 62, 3) := by decide +kernel
theorem dX10_trace_4 : decode cX10_trace 4 = .ok (.lreturn, 1) := by decide +kernel
theorem dX10_passHour_0 : decode cX10_passHour 0 = .ok (.aload_n 0, 1) := by decide +kernel
theorem dX10_passHour_1 : decode cX10_passHour 1 = .ok (.invokevirtual 225, 3) := by decide +kernel
theorem dX10_passHour_4 : decode cX10_passHour 4 = .ok (.aload_n 0, 1) := by decide +kernel
theorem dX10_passHour_5 : decode cX10_passHour 5 = .ok (.invokevirtual 228, 3) := by decide +kernel
theorem dX10_passHour_8 : decode cX10_passHour 8 = .ok (.aload_n 0, 1) := by decide +kernel
theorem dX10_passHour_9 : decode cX10_passHour 9 = .ok (.invokevirtual 231, 3) := by decide +kernel
theorem dX10_passHour_12 : decode cX10_passHour 12 = .ok (.aload_n 0, 1) := by decide +kernel
theorem dX10_passHour_13 : decode cX10_passHour 13 = .ok (.invokevirtual 234, 3) := by decide +kernel
theorem dX10_passHour_16 : decode cX10_passHour 16 = .ok (.aload_n 0, 1) := by decide +kernel
theorem dX10_passHour_17 : decode cX10_passHour 17 = .ok (.dup, 1) := by decide +kernel
theorem dX10_passHour_18 : decode cX10_passHour 18 = .ok (.getfield 55, 3) := by decide +kernel
theorem dX10_passHour_21 : decode cX10_passHour 21 = .ok (.iconst 1, 1) := by decide +kernel
theorem dX10_passHour_22 : decode cX10_passHour 22 = .ok (.iadd, 1) := by decide +kernel
theorem dX10_passHour_23 : decode cX10_passHour 23 = .ok (.putfield 55, 3) := by decide +kernel
theorem dX10_passHour_26 : decode cX10_passHour 26 = .ok (.return_, 1) := by decide +kernel
theorem dX10_pickHour_0 : decode cX10_pickHour 0 = .ok (.aload_n 0, 1) := by decide +kernel
theorem dX10_pickHour_1 : decode cX10_pickHour 1 = .ok (.getfield 41, 3) := by decide +kernel
theorem dX10_pickHour_4 : decode cX10_pickHour 4 = .ok (.aload_n 0, 1) := by decide +kernel
theorem dX10_pickHour_5 : decode cX10_pickHour 5 = .ok (.getfield 55, 3) := by decide +kernel
theorem dX10_pickHour_8 : decode cX10_pickHour 8 = .ok (.invokevirtual 177, 3) := by decide +kernel
theorem dX10_pickHour_11 : decode cX10_pickHour 11 = .ok (.istore_n 1, 1) := by decide +kernel
theorem dX10_pickHour_12 : decode cX10_pickHour 12 = .ok (.iconst 0, 1) := by decide +kernel
theorem dX10_pickHour_13 : decode cX10_pickHour 13 = .ok (.istore_n 2, 1) := by decide +kernel
theorem dX10_pickHour_14 : decode cX10_pickHour 14 = .ok (.iload_n 2, 1) := by decide +kernel
theorem dX10_pickHour_15 : decode cX10_pickHour 15 = .ok (.aload_n 0, 1) := by decide +kernel
theorem dX10_pickHour_16 : decode cX10_pickHour 16 = .ok (.getfield 16, 3) := by decide +kernel
theorem dX10_pickHour_19 : decode cX10_pickHour 19 = .ok (.invokevirtual 70, 3) := by decide +kernel
theorem dX10_pickHour_22 : decode cX10_pickHour 22 = .ok (.if_icmp .ge 89, 3) := by decide +kernel
theorem dX10_pickHour_25 : decode cX10_pickHour 25 = .ok (.aload_n 0, 1) := by decide +kernel
theorem dX10_pickHour_26 : decode cX10_pickHour 26 = .ok (.getfield 16, 3) := by decide +kernel
theorem dX10_pickHour_29 : decode cX10_pickHour 29 = .ok (.iload_n 2, 1) := by decide +kernel
theorem dX10_pickHour_30 : decode cX10_pickHour 30 = .ok (.invokevirtual 202, 3) := by decide +kernel
theorem dX10_pickHour_33 : decode cX10_pickHour 33 = .ok (.checkcast 83, 3) := by decide +kernel
theorem dX10_pickHour_36 : decode cX10_pickHour 36 = .ok (.astore_n 3, 1) := by decide +kernel
theorem dX10_pickHour_37 : decode cX10_pickHour 37 = .ok (.aload_n 0, 1) := by decide +kernel
theorem dX10_pickHour_38 : decode cX10_pickHour 38 = .ok (.aload_n 3, 1) := by decide +kernel
theorem dX10_pickHour_39 : decode cX10_pickHour 39 = .ok (.getfield 96, 3) := by decide +kernel
theorem dX10_pickHour_42 : decode cX10_pickHour 42 = .ok (.invokevirtual 92, 3) := by decide +kernel
theorem dX10_pickHour_45 : decode cX10_pickHour 45 = .ok (.astore 4, 2) := by decide +kernel
theorem dX10_pickHour_47 : decode cX10_pickHour 47 = .ok (.aload 4, 2) := by decide +kernel
theorem dX10_pickHour_49 : decode cX10_pickHour 49 = .ok (.ifnull 56, 3) := by decide +kernel
theorem dX10_pickHour_52 : decode cX10_pickHour 52 = .ok (.aload 4, 2) := by decide +kernel
theorem dX10_pickHour_54 : decode cX10_pickHour 54 = .ok (.aload_n 0, 1) := by decide +kernel
theorem dX10_pickHour_55 : decode cX10_pickHour 55 = .ok (.getfield 55, 3) := by decide +kernel
theorem dX10_pickHour_58 : decode cX10_pickHour 58 = .ok (.bipush 12, 2) := by decide +kernel
theorem dX10_pickHour_60 : decode cX10_pickHour 60 = .ok (.idiv, 1) := by decide +kernel
theorem dX10_pickHour_61 : decode cX10_pickHour 61 = .ok (.invokevirtual 213, 3) := by decide +kernel
theorem dX10_pickHour_64 : decode cX10_pickHour 64 = .ok (.ifCond .ne 6, 3) := by decide +kernel
theorem dX10_pickHour_67 : decode cX10_pickHour 67 = .ok (.goto 38, 3) := by decide +kernel
theorem dX10_pickHour_70 : decode cX10_pickHour 70 = .ok (.aload 4, 2) := by decide +kernel
theorem dX10_pickHour_72 : decode cX10_pickHour 72 = .ok (.aload_n 3, 1) := by decide +kernel
theorem dX10_pickHour_73 : decode cX10_pickHour 73 = .ok (.getfield 237, 3) := by decide +kernel
theorem dX10_pickHour_76 : decode cX10_pickHour 76 = .ok (.invokevirtual 240, 3) := by decide +kernel
theorem dX10_pickHour_79 : decode cX10_pickHour 79 = .ok (.istore 5, 2) := by decide +kernel
theorem dX10_pickHour_81 : decode cX10_pickHour 81 = .ok (.aload_n 3, 1) := by decide +kernel
theorem dX10_pickHour_82 : decode cX10_pickHour 82 = .ok (.iload 5, 2) := by decide +kernel
theorem dX10_pickHour_84 : decode cX10_pickHour 84 = .ok (.iload_n 1, 1) := by decide +kernel
theorem dX10_pickHour_85 : decode cX10_pickHour 85 = .ok (.invokevirtual 243, 3) := by decide +kernel
theorem dX10_pickHour_88 : decode cX10_pickHour 88 = .ok (.aload_n 0, 1) := by decide +kernel
theorem dX10_pickHour_89 : decode cX10_pickHour 89 = .ok (.getfield 25, 3) := by decide +kernel
theorem dX10_pickHour_92 : decode cX10_pickHour 92 = .ok (.aload_n 0, 1) := by decide +kernel
theorem dX10_pickHour_93 : decode cX10_pickHour 93 = .ok (.getfield 55, 3) := by decide +kernel
theorem dX10_pickHour_96 : decode cX10_pickHour 96 = .ok (.aload_n 3, 1) := by decide +kernel
theorem dX10_pickHour_97 : decode cX10_pickHour 97 = .ok (.getfield 96, 3) := by decide +kernel
theorem dX10_pickHour_100 : decode cX10_pickHour 100 = .ok (.iload 5, 2) := by decide +kernel
theorem dX10_pickHour_102 : decode cX10_pickHour 102 = .ok (.invokevirtual 246, 3) := by decide +kernel
theorem dX10_pickHour_105 : decode cX10_pickHour 105 = .ok (.iinc 2 1, 3) := by decide +kernel
theorem dX10_pickHour_108 : decode cX10_pickHour 108 = .ok (.goto (-94), 3) := by decide +kernel
theorem dX10_pickHour_111 : decode cX10_pickHour 111 = .ok (.return_, 1) := by decide +kernel
theorem dX10_dryHour_0 : decode cX10_dryHour 0 = .ok (.iconst 0, 1) := by decide +kernel
theorem dX10_dryHour_1 : decode cX10_dryHour 1 = .ok (.istore_n 1, 1) := by decide +kernel
theorem dX10_dryHour_2 : decode cX10_dryHour 2 = .ok (.iload_n 1, 1) := by decide +kernel
theorem dX10_dryHour_3 : decode cX10_dryHour 3 = .ok (.aload_n 0, 1) := by decide +kernel
theorem dX10_dryHour_4 : decode cX10_dryHour 4 = .ok (.getfield 19, 3) := by decide +kernel
theorem dX10_dryHour_7 : decode cX10_dryHour 7 = .ok (.invokevirtual 70, 3) := by decide +kernel
theorem dX10_dryHour_10 : decode cX10_dryHour 10 = .ok (.if_icmp .ge 65, 3) := by decide +kernel
theorem dX10_dryHour_13 : decode cX10_dryHour 13 = .ok (.aload_n 0, 1) := by decide +kernel
theorem dX10_dryHour_14 : decode cX10_dryHour 14 = .ok (.getfield 19, 3) := by decide +kernel
theorem dX10_dryHour_17 : decode cX10_dryHour 17 = .ok (.iload_n 1, 1) := by decide +kernel
theorem dX10_dryHour_18 : decode cX10_dryHour 18 = .ok (.invokevirtual 202, 3) := by decide +kernel
theorem dX10_dryHour_21 : decode cX10_dryHour 21 = .ok (.checkcast 99, 3) := by decide +kernel
theorem dX10_dryHour_24 : decode cX10_dryHour 24 = .ok (.astore_n 2, 1) := by decide +kernel
theorem dX10_dryHour_25 : decode cX10_dryHour 25 = .ok (.aload_n 2, 1) := by decide +kernel
theorem dX10_dryHour_26 : decode cX10_dryHour 26 = .ok (.invokevirtual 249, 3) := by decide +kernel
theorem dX10_dryHour_29 : decode cX10_dryHour 29 = .ok (.ifCond .eq 6, 3) := by decide +kernel
theorem dX10_dryHour_32 : decode cX10_dryHour 32 = .ok (.goto 37, 3) := by decide +kernel
theorem dX10_dryHour_35 : decode cX10_dryHour 35 = .ok (.aload_n 2, 1) := by decide +kernel
theorem dX10_dryHour_36 : decode cX10_dryHour 36 = .ok (.dup, 1) := by decide +kernel
theorem dX10_dryHour_37 : decode cX10_dryHour 37 = .ok (.getfield 159, 3) := by decide +kernel
theorem dX10_dryHour_40 : decode cX10_dryHour 40 = .ok (.aload_n 2, 1) := by decide +kernel
theorem dX10_dryHour_41 : decode cX10_dryHour 41 = .ok (.getfield 115, 3) := by decide +kernel
theorem dX10_dryHour_44 : decode cX10_dryHour 44 = .ok (.aload_n 2, 1) := by decide +kernel
theorem dX10_dryHour_45 : decode cX10_dryHour 45 = .ok (.getfield 112, 3) := by decide +kernel
theorem dX10_dryHour_48 : decode cX10_dryHour 48 = .ok (.invokevirtual 124, 3) := by decide +kernel
theorem dX10_dryHour_51 : decode cX10_dryHour 51 = .ok (.iadd, 1) := by decide +kernel
theorem dX10_dryHour_52 : decode cX10_dryHour 52 = .ok (.putfield 159, 3) := by decide +kernel
theorem dX10_dryHour_55 : decode cX10_dryHour 55 = .ok (.aload_n 2, 1) := by decide +kernel
theorem dX10_dryHour_56 : decode cX10_dryHour 56 = .ok (.getfield 159, 3) := by decide +kernel
theorem dX10_dryHour_59 : decode cX10_dryHour 59 = .ok (.bipush 60, 2) := by decide +kernel
theorem dX10_dryHour_61 : decode cX10_dryHour 61 = .ok (.if_icmp .lt 8, 3) := by decide +kernel
theorem dX10_dryHour_64 : decode cX10_dryHour 64 = .ok (.aload_n 0, 1) := by decide +kernel
theorem dX10_dryHour_65 : decode cX10_dryHour 65 = .ok (.aload_n 2, 1) := by decide +kernel
theorem dX10_dryHour_66 : decode cX10_dryHour 66 = .ok (.invokevirtual 253, 3) := by decide +kernel
theorem dX10_dryHour_69 : decode cX10_dryHour 69 = .ok (.iinc 1 1, 3) := by decide +kernel
theorem dX10_dryHour_72 : decode cX10_dryHour 72 = .ok (.goto (-70), 3) := by decide +kernel
theorem dX10_dryHour_75 : decode cX10_dryHour 75 = .ok (.return_, 1) := by decide +kernel
theorem dX10_unload_0 : decode cX10_unload 0 = .ok (.iconst 0, 1) := by decide +kernel
theorem dX10_unload_1 : decode cX10_unload 1 = .ok (.istore_n 2, 1) := by decide +kernel
theorem dX10_unload_2 : decode cX10_unload 2 = .ok (.iload_n 2, 1) := by decide +kernel
theorem dX10_unload_3 : decode cX10_unload 3 = .ok (.aload_n 1, 1) := by decide +kernel
theorem dX10_unload_4 : decode cX10_unload 4 = .ok (.getfield 257, 3) := by decide +kernel
theorem dX10_unload_7 : decode cX10_unload 7 = .ok (.if_icmp .ge 65, 3) := by decide +kernel
theorem dX10_unload_10 : decode cX10_unload 10 = .ok (.aload_n 0, 1) := by decide +kernel
theorem dX10_unload_11 : decode cX10_unload 11 = .ok (.aload_n 1, 1) := by decide +kernel
theorem dX10_unload_12 : decode cX10_unload 12 = .ok (.getfield 260, 3) := by decide +kernel
theorem dX10_unload_15 : decode cX10_unload 15 = .ok (.iload_n 2, 1) := by decide +kernel
theorem dX10_unload_16 : decode cX10_unload 16 = .ok (.iaload, 1) := by decide +kernel
theorem dX10_unload_17 : decode cX10_unload 17 = .ok (.invokevirtual 92, 3) := by decide +kernel
theorem dX10_unload_20 : decode cX10_unload 20 = .ok (.astore_n 3, 1) := by decide +kernel
theorem dX10_unload_21 : decode cX10_unload 21 = .ok (.aload_n 3, 1) := by decide +kernel
theorem dX10_unload_22 : decode cX10_unload 22 = .ok (.ifnull 18, 3) := by decide +kernel
theorem dX10_unload_25 : decode cX10_unload 25 = .ok (.aload_n 3, 1) := by decide +kernel
theorem dX10_unload_26 : decode cX10_unload 26 = .ok (.dup, 1) := by decide +kernel
theorem dX10_unload_27 : decode cX10_unload 27 = .ok (.getfield 146, 3) := by decide +kernel
theorem dX10_unload_30 : decode cX10_unload 30 = .ok (.aload_n 1, 1) := by decide +kernel
theorem dX10_unload_31 : decode cX10_unload 31 = .ok (.getfield 263, 3) := by decide +kernel
theorem dX10_unload_34 : decode cX10_unload 34 = .ok (.iload_n 2, 1) := by decide +kernel
theorem dX10_unload_35 : decode cX10_unload 35 = .ok (.iaload, 1) := by decide +kernel
theorem dX10_unload_36 : decode cX10_unload 36 = .ok (.iadd, 1) := by decide +kernel
theorem dX10_unload_37 : decode cX10_unload 37 = .ok (.putfield 146, 3) := by decide +kernel
theorem dX10_unload_40 : decode cX10_unload 40 = .ok (.aload_n 0, 1) := by decide +kernel
theorem dX10_unload_41 : decode cX10_unload 41 = .ok (.getfield 32, 3) := by decide +kernel
theorem dX10_unload_44 : decode cX10_unload 44 = .ok (.aload_n 1, 1) := by decide +kernel
theorem dX10_unload_45 : decode cX10_unload 45 = .ok (.getfield 260, 3) := by decide +kernel
theorem dX10_unload_48 : decode cX10_unload 48 = .ok (.iload_n 2, 1) := by decide +kernel
theorem dX10_unload_49 : decode cX10_unload 49 = .ok (.iaload, 1) := by decide +kernel
theorem dX10_unload_50 : decode cX10_unload 50 = .ok (.aload_n 1, 1) := by decide +kernel
theorem dX10_unload_51 : decode cX10_unload 51 = .ok (.getfield 263, 3) := by decide +kernel
theorem dX10_unload_54 : decode cX10_unload 54 = .ok (.iload_n 2, 1) := by decide +kernel
theorem dX10_unload_55 : decode cX10_unload 55 = .ok (.iaload, 1) := by decide +kernel
theorem dX10_unload_56 : decode cX10_unload 56 = .ok (.aload_n 0, 1) := by decide +kernel
theorem dX10_unload_57 : decode cX10_unload 57 = .ok (.getfield 55, 3) := by decide +kernel
theorem dX10_unload_60 : decode cX10_unload 60 = .ok (.bipush 12, 2) := by decide +kernel
theorem dX10_unload_62 : decode cX10_unload 62 = .ok (.idiv, 1) := by decide +kernel
theorem dX10_unload_63 : decode cX10_unload 63 = .ok (.invokevirtual 266, 3) := by decide +kernel
theorem dX10_unload_66 : decode cX10_unload 66 = .ok (.iinc 2 1, 3) := by decide +kernel
theorem dX10_unload_69 : decode cX10_unload 69 = .ok (.goto (-67), 3) := by decide +kernel
theorem dX10_unload_72 : decode cX10_unload 72 = .ok (.aload_n 1, 1) := by decide +kernel
theorem dX10_unload_73 : decode cX10_unload 73 = .ok (.invokevirtual 267, 3) := by decide +kernel
theorem dX10_unload_76 : decode cX10_unload 76 = .ok (.return_, 1) := by decide +kernel
theorem dX10_loseHour_0 : decode cX10_loseHour 0 = .ok (.aload_n 0, 1) := by decide +kernel
theorem dX10_loseHour_1 : decode cX10_loseHour 1 = .ok (.getfield 59, 3) := by decide +kernel
theorem dX10_loseHour_4 : decode cX10_loseHour 4 = .ok (.istore_n 1, 1) := by decide +kernel
theorem dX10_loseHour_5 : decode cX10_loseHour 5 = .ok (.iload_n 1, 1) := by decide +kernel
theorem dX10_loseHour_6 : decode cX10_loseHour 6 = .ok (.bipush 25, 2) := by decide +kernel
theorem dX10_loseHour_8 : decode cX10_loseHour 8 = .ok (.if_icmp .ge 64, 3) := by decide +kernel
theorem dX10_loseHour_11 : decode cX10_loseHour 11 = .ok (.iconst 0, 1) := by decide +kernel
theorem dX10_loseHour_12 : decode cX10_loseHour 12 = .ok (.istore_n 2, 1) := by decide +kernel
theorem dX10_loseHour_13 : decode cX10_loseHour 13 = .ok (.iload_n 2, 1) := by decide +kernel
theorem dX10_loseHour_14 : decode cX10_loseHour 14 = .ok (.aload_n 0, 1) := by decide +kernel
theorem dX10_loseHour_15 : decode cX10_loseHour 15 = .ok (.getfield 10, 3) := by decide +kernel
theorem dX10_loseHour_18 : decode cX10_loseHour 18 = .ok (.invokevirtual 70, 3) := by decide +kernel
theorem dX10_loseHour_21 : decode cX10_loseHour 21 = .ok (.if_icmp .ge 45, 3) := by decide +kernel
theorem dX10_loseHour_24 : decode cX10_loseHour 24 = .ok (.aload_n 0, 1) := by decide +kernel
theorem dX10_loseHour_25 : decode cX10_loseHour 25 = .ok (.getfield 10, 3) := by decide +kernel
theorem dX10_loseHour_28 : decode cX10_loseHour 28 = .ok (.iload_n 2, 1) := by decide +kernel
theorem dX10_loseHour_29 : decode cX10_loseHour 29 = .ok (.invokevirtual 202, 3) := by decide +kernel
theorem dX10_loseHour_32 : decode cX10_loseHour 32 = .ok (.checkcast 74, 3) := by decide +kernel
theorem dX10_loseHour_35 : decode cX10_loseHour 35 = .ok (.dup, 1) := by decide +kernel
theorem dX10_loseHour_36 : decode cX10_loseHour 36 = .ok (.getfield 143, 3) := by decide +kernel
theorem dX10_loseHour_39 : decode cX10_loseHour 39 = .ok (.aload_n 0, 1) := by decide +kernel
theorem dX10_loseHour_40 : decode cX10_loseHour 40 = .ok (.getfield 25, 3) := by decide +kernel
theorem dX10_loseHour_43 : decode cX10_loseHour 43 = .ok (.aload_n 0, 1) := by decide +kernel
theorem dX10_loseHour_44 : decode cX10_loseHour 44 = .ok (.getfield 55, 3) := by decide +kernel
theorem dX10_loseHour_47 : decode cX10_loseHour 47 = .ok (.iload_n 1, 1) := by decide +kernel
theorem dX10_loseHour_48 : decode cX10_loseHour 48 = .ok (.isub, 1) := by decide +kernel
theorem dX10_loseHour_49 : decode cX10_loseHour 49 = .ok (.iload_n 2, 1) := by decide +kernel
theorem dX10_loseHour_50 : decode cX10_loseHour 50 = .ok (.sipush 5000, 3) := by decide +kernel
theorem dX10_loseHour_53 : decode cX10_loseHour 53 = .ok (.invokevirtual 270, 3) := by decide +kernel
theorem dX10_loseHour_56 : decode cX10_loseHour 56 = .ok (.iadd, 1) := by decide +kernel
theorem dX10_loseHour_57 : decode cX10_loseHour 57 = .ok (.putfield 143, 3) := by decide +kernel
theorem dX10_loseHour_60 : decode cX10_loseHour 60 = .ok (.iinc 2 1, 3) := by decide +kernel
theorem dX10_loseHour_63 : decode cX10_loseHour 63 = .ok (.goto (-50), 3) := by decide +kernel
theorem dX10_loseHour_66 : decode cX10_loseHour 66 = .ok (.iinc 1 1, 3) := by decide +kernel
theorem dX10_loseHour_69 : decode cX10_loseHour 69 = .ok (.goto (-64), 3) := by decide +kernel
theorem dX10_loseHour_72 : decode cX10_loseHour 72 = .ok (.return_, 1) := by decide +kernel
theorem dX10_fillHour_0 : decode cX10_fillHour 0 = .ok (.iconst 0, 1) := by decide +kernel
theorem dX10_fillHour_1 : decode cX10_fillHour 1 = .ok (.istore_n 1, 1) := by decide +kernel
theorem dX10_fillHour_2 : decode cX10_fillHour 2 = .ok (.iload_n 1, 1) := by decide +kernel
theorem dX10_fillHour_3 : decode cX10_fillHour 3 = .ok (.aload_n 0, 1) := by decide +kernel
theorem dX10_fillHour_4 : decode cX10_fillHour 4 = .ok (.getfield 19, 3) := by decide +kernel
theorem dX10_fillHour_7 : decode cX10_fillHour 7 = .ok (.invokevirtual 70, 3) := by decide +kernel
theorem dX10_fillHour_10 : decode cX10_fillHour 10 = .ok (.if_icmp .ge 33, 3) := by decide +kernel
theorem dX10_fillHour_13 : decode cX10_fillHour 13 = .ok (.aload_n 0, 1) := by decide +kernel
theorem dX10_fillHour_14 : decode cX10_fillHour 14 = .ok (.getfield 19, 3) := by decide +kernel
theorem dX10_fillHour_17 : decode cX10_fillHour 17 = .ok (.iload_n 1, 1) := by decide +kernel
theorem dX10_fillHour_18 : decode cX10_fillHour 18 = .ok (.invokevirtual 202, 3) := by decide +kernel
theorem dX10_fillHour_21 : decode cX10_fillHour 21 = .ok (.checkcast 99, 3) := by decide +kernel
theorem dX10_fillHour_24 : decode cX10_fillHour 24 = .ok (.astore_n 2, 1) := by decide +kernel
theorem dX10_fillHour_25 : decode cX10_fillHour 25 = .ok (.aload_n 2, 1) := by decide +kernel
theorem dX10_fillHour_26 : decode cX10_fillHour 26 = .ok (.invokevirtual 249, 3) := by decide +kernel
theorem dX10_fillHour_29 : decode cX10_fillHour 29 = .ok (.ifCond .eq 8, 3) := by decide +kernel
theorem dX10_fillHour_32 : decode cX10_fillHour 32 = .ok (.aload_n 0, 1) := by decide +kernel
theorem dX10_fillHour_33 : decode cX10_fillHour 33 = .ok (.aload_n 2, 1) := by decide +kernel
theorem dX10_fillHour_34 : decode cX10_fillHour 34 = .ok (.invokevirtual 274, 3) := by decide +kernel
theorem dX10_fillHour_37 : decode cX10_fillHour 37 = .ok (.iinc 1 1, 3) := by decide +kernel
theorem dX10_fillHour_40 : decode cX10_fillHour 40 = .ok (.goto (-38), 3) := by decide +kernel
theorem dX10_fillHour_43 : decode cX10_fillHour 43 = .ok (.return_, 1) := by decide +kernel
theorem dX10_fill_0 : decode cX10_fill 0 = .ok (.aload_n 0, 1) := by decide +kernel
theorem dX10_fill_1 : decode cX10_fill 1 = .ok (.getfield 59, 3) := by decide +kernel
theorem dX10_fill_4 : decode cX10_fill 4 = .ok (.iconst 1, 1) := by decide +kernel
theorem dX10_fill_5 : decode cX10_fill 5 = .ok (.isub, 1) := by decide +kernel
theorem dX10_fill_6 : decode cX10_fill 6 = .ok (.istore_n 2, 1) := by decide +kernel
theorem dX10_fill_7 : decode cX10_fill 7 = .ok (.iload_n 2, 1) := by decide +kernel
theorem dX10_fill_8 : decode cX10_fill 8 = .ok (.ifCond .lt 69, 3) := by decide +kernel
theorem dX10_fill_11 : decode cX10_fill 11 = .ok (.iconst 0, 1) := by decide +kernel
theorem dX10_fill_12 : decode cX10_fill 12 = .ok (.istore_n 3, 1) := by decide +kernel
theorem dX10_fill_13 : decode cX10_fill 13 = .ok (.iload_n 3, 1) := by decide +kernel
theorem dX10_fill_14 : decode cX10_fill 14 = .ok (.aload_n 0, 1) := by decide +kernel
theorem dX10_fill_15 : decode cX10_fill 15 = .ok (.getfield 10, 3) := by decide +kernel
theorem dX10_fill_18 : decode cX10_fill 18 = .ok (.invokevirtual 70, 3) := by decide +kernel
theorem dX10_fill_21 : decode cX10_fill 21 = .ok (.if_icmp .ge 50, 3) := by decide +kernel
theorem dX10_fill_24 : decode cX10_fill 24 = .ok (.aload_n 0, 1) := by decide +kernel
theorem dX10_fill_25 : decode cX10_fill 25 = .ok (.getfield 25, 3) := by decide +kernel
theorem dX10_fill_28 : decode cX10_fill 28 = .ok (.getfield 192, 3) := by decide +kernel
theorem dX10_fill_31 : decode cX10_fill 31 = .ok (.ifCond .eq 10, 3) := by decide +kernel
theorem dX10_fill_34 : decode cX10_fill 34 = .ok (.aload_n 1, 1) := by decide +kernel
theorem dX10_fill_35 : decode cX10_fill 35 = .ok (.invokevirtual 277, 3) := by decide +kernel
theorem dX10_fill_38 : decode cX10_fill 38 = .ok (.ifCond .ne 4, 3) := by decide +kernel
theorem dX10_fill_41 : decode cX10_fill 41 = .ok (.return_, 1) := by decide +kernel
theorem dX10_fill_42 : decode cX10_fill 42 = .ok (.aload_n 1, 1) := by decide +kernel
theorem dX10_fill_43 : decode cX10_fill 43 = .ok (.iload_n 3, 1) := by decide +kernel
theorem dX10_fill_44 : decode cX10_fill 44 = .ok (.aload_n 0, 1) := by decide +kernel
theorem dX10_fill_45 : decode cX10_fill 45 = .ok (.getfield 25, 3) := by decide +kernel
theorem dX10_fill_48 : decode cX10_fill 48 = .ok (.aload_n 0, 1) := by decide +kernel
theorem dX10_fill_49 : decode cX10_fill 49 = .ok (.getfield 55, 3) := by decide +kernel
theorem dX10_fill_52 : decode cX10_fill 52 = .ok (.iload_n 2, 1) := by decide +kernel
theorem dX10_fill_53 : decode cX10_fill 53 = .ok (.isub, 1) := by decide +kernel
theorem dX10_fill_54 : decode cX10_fill 54 = .ok (.iload_n 3, 1) := by decide +kernel
theorem dX10_fill_55 : decode cX10_fill 55 = .ok (.aload_n 1, 1) := by decide +kernel
theorem dX10_fill_56 : decode cX10_fill 56 = .ok (.invokevirtual 277, 3) := by decide +kernel
theorem dX10_fill_59 : decode cX10_fill 59 = .ok (.invokevirtual 270, 3) := by decide +kernel
theorem dX10_fill_62 : decode cX10_fill 62 = .ok (.invokevirtual 280, 3) := by decide +kernel
theorem dX10_fill_65 : decode cX10_fill 65 = .ok (.iinc 3 1, 3) := by decide +kernel
theorem dX10_fill_68 : decode cX10_fill 68 = .ok (.goto (-55), 3) := by decide +kernel
theorem dX10_fill_71 : decode cX10_fill 71 = .ok (.iinc 2 (-1), 3) := by decide +kernel
theorem dX10_fill_74 : decode cX10_fill 74 = .ok (.goto (-67), 3) := by decide +kernel
theorem dX10_fill_77 : decode cX10_fill 77 = .ok (.return_, 1) := by decide +kernel
theorem dX10_inKilnsOf_0 : decode cX10_inKilnsOf 0 = .ok (.iconst 0, 1) := by decide +kernel
theorem dX10_inKilnsOf_1 : decode cX10_inKilnsOf 1 = .ok (.istore_n 2, 1) := by decide +kernel
theorem dX10_inKilnsOf_2 : decode cX10_inKilnsOf 2 = .ok (.iconst 0, 1) := by decide +kernel
theorem dX10_inKilnsOf_3 : decode cX10_inKilnsOf 3 = .ok (.istore_n 3, 1) := by decide +kernel
theorem dX10_inKilnsOf_4 : decode cX10_inKilnsOf 4 = .ok (.iload_n 3, 1) := by decide +kernel
theorem dX10_inKilnsOf_5 : decode cX10_inKilnsOf 5 = .ok (.aload_n 0, 1) := by decide +kernel
theorem dX10_inKilnsOf_6 : decode cX10_inKilnsOf 6 = .ok (.getfield 19, 3) := by decide +kernel
theorem dX10_inKilnsOf_9 : decode cX10_inKilnsOf 9 = .ok (.invokevirtual 70, 3) := by decide +kernel
theorem dX10_inKilnsOf_12 : decode cX10_inKilnsOf 12 = .ok (.if_icmp .ge 27, 3) := by decide +kernel
theorem dX10_inKilnsOf_15 : decode cX10_inKilnsOf 15 = .ok (.iload_n 2, 1) := by decide +kernel
theorem dX10_inKilnsOf_16 : decode cX10_inKilnsOf 16 = .ok (.aload_n 0, 1) := by decide +kernel
theorem dX10_inKilnsOf_17 : decode cX10_inKilnsOf 17 = .ok (.getfield 19, 3) := by decide +kernel
theorem dX10_inKilnsOf_20 : decode cX10_inKilnsOf 20 = .ok (.iload_n 3, 1) := by decide +kernel
theorem dX10_inKilnsOf_21 : decode cX10_inKilnsOf 21 = .ok (.invokevirtual 202, 3) := by decide +kernel
theorem dX10_inKilnsOf_24 : decode cX10_inKilnsOf 24 = .ok (.checkcast 99, 3) := by decide +kernel
theorem dX10_inKilnsOf_27 : decode cX10_inKilnsOf 27 = .ok (.iload_n 1, 1) := by decide +kernel
theorem dX10_inKilnsOf_28 : decode cX10_inKilnsOf 28 = .ok (.invokevirtual 283, 3) := by decide +kernel
theorem dX10_inKilnsOf_31 : decode cX10_inKilnsOf 31 = .ok (.iadd, 1) := by decide +kernel
theorem dX10_inKilnsOf_32 : decode cX10_inKilnsOf 32 = .ok (.istore_n 2, 1) := by decide +kernel
theorem dX10_inKilnsOf_33 : decode cX10_inKilnsOf 33 = .ok (.iinc 3 1, 3) := by decide +kernel
theorem dX10_inKilnsOf_36 : decode cX10_inKilnsOf 36 = .ok (.goto (-32), 3) := by decide +kernel
theorem dX10_inKilnsOf_39 : decode cX10_inKilnsOf 39 = .ok (.iload_n 2, 1) := by decide +kernel
theorem dX10_inKilnsOf_40 : decode cX10_inKilnsOf 40 = .ok (.ireturn, 1) := by decide +kernel
theorem dX10_chargedInAll_0 : decode cX10_chargedInAll 0 = .ok (.iconst 0, 1) := by decide +kernel
theorem dX10_chargedInAll_1 : decode cX10_chargedInAll 1 = .ok (.istore_n 1, 1) := by decide +kernel
theorem dX10_chargedInAll_2 : decode cX10_chargedInAll 2 = .ok (.iconst 0, 1) := by decide +kernel
theorem dX10_chargedInAll_3 : decode cX10_chargedInAll 3 = .ok (.istore_n 2, 1) := by decide +kernel
theorem dX10_chargedInAll_4 : decode cX10_chargedInAll 4 = .ok (.iload_n 2, 1) := by decide +kernel
theorem dX10_chargedInAll_5 : decode cX10_chargedInAll 5 = .ok (.aload_n 0, 1) := by decide +kernel
theorem dX10_chargedInAll_6 : decode cX10_chargedInAll 6 = .ok (.getfield 32, 3) := by decide +kernel
theorem dX10_chargedInAll_9 : decode cX10_chargedInAll 9 = .ok (.invokevirtual 168, 3) := by decide +kernel
theorem dX10_chargedInAll_12 : decode cX10_chargedInAll 12 = .ok (.if_icmp .ge 28, 3) := by decide +kernel
theorem dX10_chargedInAll_15 : decode cX10_chargedInAll 15 = .ok (.iload_n 1, 1) := by decide +kernel
theorem dX10_chargedInAll_16 : decode cX10_chargedInAll 16 = .ok (.aload_n 0, 1) := by decide +kernel
theorem dX10_chargedInAll_17 : decode cX10_chargedInAll 17 = .ok (.getfield 45, 3) := by decide +kernel
theorem dX10_chargedInAll_20 : decode cX10_chargedInAll 20 = .ok (.aload_n 0, 1) := by decide +kernel
theorem dX10_chargedInAll_21 : decode cX10_chargedInAll 21 = .ok (.getfield 32, 3) := by decide +kernel
theorem dX10_chargedInAll_24 : decode cX10_chargedInAll 24 = .ok (.getfield 174, 3) := by decide +kernel
theorem dX10_chargedInAll_27 : decode cX10_chargedInAll 27 = .ok (.iload_n 2, 1) := by decide +kernel
theorem dX10_chargedInAll_28 : decode cX10_chargedInAll 28 = .ok (.iaload, 1) := by decide +kernel
theorem dX10_chargedInAll_29 : decode cX10_chargedInAll 29 = .ok (.invokevirtual 177, 3) := by decide +kernel
theorem dX10_chargedInAll_32 : decode cX10_chargedInAll 32 = .ok (.iadd, 1) := by decide +kernel
theorem dX10_chargedInAll_33 : decode cX10_chargedInAll 33 = .ok (.istore_n 1, 1) := by decide +kernel
theorem dX10_chargedInAll_34 : decode cX10_chargedInAll 34 = .ok (.iinc 2 1, 3) := by decide +kernel
theorem dX10_chargedInAll_37 : decode cX10_chargedInAll 37 = .ok (.goto (-33), 3) := by decide +kernel
theorem dX10_chargedInAll_40 : decode cX10_chargedInAll 40 = .ok (.iload_n 1, 1) := by decide +kernel
theorem dX10_chargedInAll_41 : decode cX10_chargedInAll 41 = .ok (.ireturn, 1) := by decide +kernel
theorem dX10_lostInAll_0 : decode cX10_lostInAll 0 = .ok (.iconst 0, 1) := by decide +kernel
theorem dX10_lostInAll_1 : decode cX10_lostInAll 1 = .ok (.istore_n 1, 1) := by decide +kernel
theorem dX10_lostInAll_2 : decode cX10_lostInAll 2 = .ok (.iconst 0, 1) := by decide +kernel
theorem dX10_lostInAll_3 : decode cX10_lostInAll 3 = .ok (.istore_n 2, 1) := by decide +kernel
theorem dX10_lostInAll_4 : decode cX10_lostInAll 4 = .ok (.iload_n 2, 1) := by decide +kernel
theorem dX10_lostInAll_5 : decode cX10_lostInAll 5 = .ok (.aload_n 0, 1) := by decide +kernel
theorem dX10_lostInAll_6 : decode cX10_lostInAll 6 = .ok (.getfield 10, 3) := by decide +kernel
theorem dX10_lostInAll_9 : decode cX10_lostInAll 9 = .ok (.invokevirtual 70, 3) := by decide +kernel
theorem dX10_lostInAll_12 : decode cX10_lostInAll 12 = .ok (.if_icmp .ge 26, 3) := by decide +kernel
theorem dX10_lostInAll_15 : decode cX10_lostInAll 15 = .ok (.iload_n 1, 1) := by decide +kernel
theorem dX10_lostInAll_16 : decode cX10_lostInAll 16 = .ok (.aload_n 0, 1) := by decide +kernel
theorem dX10_lostInAll_17 : decode cX10_lostInAll 17 = .ok (.getfield 10, 3) := by decide +kernel
theorem dX10_lostInAll_20 : decode cX10_lostInAll 20 = .ok (.iload_n 2, 1) := by decide +kernel
theorem dX10_lostInAll_21 : decode cX10_lostInAll 21 = .ok (.invokevirtual 202, 3) := by decide +kernel
theorem dX10_lostInAll_24 : decode cX10_lostInAll 24 = .ok (.checkcast 74, 3) := by decide +kernel
theorem dX10_lostInAll_27 : decode cX10_lostInAll 27 = .ok (.getfield 143, 3) := by decide +kernel
theorem dX10_lostInAll_30 : decode cX10_lostInAll 30 = .ok (.iadd, 1) := by decide +kernel
theorem dX10_lostInAll_31 : decode cX10_lostInAll 31 = .ok (.istore_n 1, 1) := by decide +kernel
theorem dX10_lostInAll_32 : decode cX10_lostInAll 32 = .ok (.iinc 2 1, 3) := by decide +kernel
theorem dX10_lostInAll_35 : decode cX10_lostInAll 35 = .ok (.goto (-31), 3) := by decide +kernel
theorem dX10_lostInAll_38 : decode cX10_lostInAll 38 = .ok (.iload_n 1, 1) := by decide +kernel
theorem dX10_lostInAll_39 : decode cX10_lostInAll 39 = .ok (.ireturn, 1) := by decide +kernel
theorem dX10_payInAll_0 : decode cX10_payInAll 0 = .ok (.iconst 0, 1) := by decide +kernel
theorem dX10_payInAll_1 : decode cX10_payInAll 1 = .ok (.istore_n 1, 1) := by decide +kernel
theorem dX10_payInAll_2 : decode cX10_payInAll 2 = .ok (.iconst 0, 1) := by decide +kernel
theorem dX10_payInAll_3 : decode cX10_payInAll 3 = .ok (.istore_n 2, 1) := by decide +kernel
theorem dX10_payInAll_4 : decode cX10_payInAll 4 = .ok (.iload_n 2, 1) := by decide +kernel
theorem dX10_payInAll_5 : decode cX10_payInAll 5 = .ok (.aload_n 0, 1) := by decide +kernel
theorem dX10_payInAll_6 : decode cX10_payInAll 6 = .ok (.getfield 16, 3) := by decide +kernel
theorem dX10_payInAll_9 : decode cX10_payInAll 9 = .ok (.invokevirtual 70, 3) := by decide +kernel
theorem dX10_payInAll_12 : decode cX10_payInAll 12 = .ok (.if_icmp .ge 26, 3) := by decide +kernel
theorem dX10_payInAll_15 : decode cX10_payInAll 15 = .ok (.iload_n 1, 1) := by decide +kernel
theorem dX10_payInAll_16 : decode cX10_payInAll 16 = .ok (.aload_n 0, 1) := by decide +kernel
theorem dX10_payInAll_17 : decode cX10_payInAll 17 = .ok (.getfield 16, 3) := by decide +kernel
theorem dX10_payInAll_20 : decode cX10_payInAll 20 = .ok (.iload_n 2, 1) := by decide +kernel
theorem dX10_payInAll_21 : decode cX10_payInAll 21 = .ok (.invokevirtual 202, 3) := by decide +kernel
theorem dX10_payInAll_24 : decode cX10_payInAll 24 = .ok (.checkcast 83, 3) := by decide +kernel
theorem dX10_payInAll_27 : decode cX10_payInAll 27 = .ok (.getfield 153, 3) := by decide +kernel
theorem dX10_payInAll_30 : decode cX10_payInAll 30 = .ok (.iadd, 1) := by decide +kernel
theorem dX10_payInAll_31 : decode cX10_payInAll 31 = .ok (.istore_n 1, 1) := by decide +kernel
theorem dX10_payInAll_32 : decode cX10_payInAll 32 = .ok (.iinc 2 1, 3) := by decide +kernel
theorem dX10_payInAll_35 : decode cX10_payInAll 35 = .ok (.goto (-31), 3) := by decide +kernel
theorem dX10_payInAll_38 : decode cX10_payInAll 38 = .ok (.iload_n 1, 1) := by decide +kernel
theorem dX10_payInAll_39 : decode cX10_payInAll 39 = .ok (.ireturn, 1) := by decide +kernel
theorem dX10_gardenOf_0 : decode cX10_gardenOf 0 = .ok (.iload_n 1, 1) := by decide +kernel
theorem dX10_gardenOf_1 : decode cX10_gardenOf 1 = .ok (.iconst 0, 1) := by decide +kernel
theorem dX10_gardenOf_2 : decode cX10_gardenOf 2 = .ok (.aload_n 0, 1) := by decide +kernel
theorem dX10_gardenOf_3 : decode cX10_gardenOf 3 = .ok (.getfield 10, 3) := by decide +kernel
theorem dX10_gardenOf_6 : decode cX10_gardenOf 6 = .ok (.invokevirtual 70, 3) := by decide +kernel
theorem dX10_gardenOf_9 : decode cX10_gardenOf 9 = .ok (.iconst 1, 1) := by decide +kernel
theorem dX10_gardenOf_10 : decode cX10_gardenOf 10 = .ok (.isub, 1) := by decide +kernel
theorem dX10_gardenOf_11 : decode cX10_gardenOf 11 = .ok (.invokestatic 66, 3) := by decide +kernel
theorem dX10_gardenOf_14 : decode cX10_gardenOf 14 = .ok (.ifCond .eq 17, 3) := by decide +kernel
theorem dX10_gardenOf_17 : decode cX10_gardenOf 17 = .ok (.aload_n 0, 1) := by decide +kernel
theorem dX10_gardenOf_18 : decode cX10_gardenOf 18 = .ok (.getfield 10, 3) := by decide +kernel
theorem dX10_gardenOf_21 : decode cX10_gardenOf 21 = .ok (.iload_n 1, 1) := by decide +kernel
theorem dX10_gardenOf_22 : decode cX10_gardenOf 22 = .ok (.invokevirtual 202, 3) := by decide +kernel
theorem dX10_gardenOf_25 : decode cX10_gardenOf 25 = .ok (.checkcast 74, 3) := by decide +kernel
theorem dX10_gardenOf_28 : decode cX10_gardenOf 28 = .ok (.goto 4, 3) := by decide +kernel
theorem dX10_gardenOf_31 : decode cX10_gardenOf 31 = .ok (.aconst_null, 1) := by decide +kernel
theorem dX10_gardenOf_32 : decode cX10_gardenOf 32 = .ok (.areturn, 1) := by decide +kernel
theorem dX10_gangOf_0 : decode cX10_gangOf 0 = .ok (.iload_n 1, 1) := by decide +kernel
theorem dX10_gangOf_1 : decode cX10_gangOf 1 = .ok (.iconst 0, 1) := by decide +kernel
theorem dX10_gangOf_2 : decode cX10_gangOf 2 = .ok (.aload_n 0, 1) := by decide +kernel
theorem dX10_gangOf_3 : decode cX10_gangOf 3 = .ok (.getfield 16, 3) := by decide +kernel
theorem dX10_gangOf_6 : decode cX10_gangOf 6 = .ok (.invokevirtual 70, 3) := by decide +kernel
theorem dX10_gangOf_9 : decode cX10_gangOf 9 = .ok (.iconst 1, 1) := by decide +kernel
theorem dX10_gangOf_10 : decode cX10_gangOf 10 = .ok (.isub, 1) := by decide +kernel
theorem dX10_gangOf_11 : decode cX10_gangOf 11 = .ok (.invokestatic 66, 3) := by decide +kernel
theorem dX10_gangOf_14 : decode cX10_gangOf 14 = .ok (.ifCond .eq 17, 3) := by decide +kernel
theorem dX10_gangOf_17 : decode cX10_gangOf 17 = .ok (.aload_n 0, 1) := by decide +kernel
theorem dX10_gangOf_18 : decode cX10_gangOf 18 = .ok (.getfield 16, 3) := by decide +kernel
theorem dX10_gangOf_21 : decode cX10_gangOf 21 = .ok (.iload_n 1, 1) := by decide +kernel
theorem dX10_gangOf_22 : decode cX10_gangOf 22 = .ok (.invokevirtual 202, 3) := by decide +kernel
theorem dX10_gangOf_25 : decode cX10_gangOf 25 = .ok (.checkcast 83, 3) := by decide +kernel
theorem dX10_gangOf_28 : decode cX10_gangOf 28 = .ok (.goto 4, 3) := by decide +kernel
theorem dX10_gangOf_31 : decode cX10_gangOf 31 = .ok (.aconst_null, 1) := by decide +kernel
theorem dX10_gangOf_32 : decode cX10_gangOf 32 = .ok (.areturn, 1) := by decide +kernel
theorem dX10_kilnOf_0 : decode cX10_kilnOf 0 = .ok (.iload_n 1, 1) := by decide +kernel
theorem dX10_kilnOf_1 : decode cX10_kilnOf 1 = .ok (.iconst 0, 1) := by decide +kernel
theorem dX10_kilnOf_2 : decode cX10_kilnOf 2 = .ok (.aload_n 0, 1) := by decide +kernel
theorem dX10_kilnOf_3 : decode cX10_kilnOf 3 = .ok (.getfield 19, 3) := by decide +kernel
theorem dX10_kilnOf_6 : decode cX10_kilnOf 6 = .ok (.invokevirtual 70, 3) := by decide +kernel
theorem dX10_kilnOf_9 : decode cX10_kilnOf 9 = .ok (.iconst 1, 1) := by decide +kernel
theorem dX10_kilnOf_10 : decode cX10_kilnOf 10 = .ok (.isub, 1) := by decide +kernel
theorem dX10_kilnOf_11 : decode cX10_kilnOf 11 = .ok (.invokestatic 66, 3) := by decide +kernel
theorem dX10_kilnOf_14 : decode cX10_kilnOf 14 = .ok (.ifCond .eq 17, 3) := by decide +kernel
theorem dX10_kilnOf_17 : decode cX10_kilnOf 17 = .ok (.aload_n 0, 1) := by decide +kernel
theorem dX10_kilnOf_18 : decode cX10_kilnOf 18 = .ok (.getfield 19, 3) := by decide +kernel
theorem dX10_kilnOf_21 : decode cX10_kilnOf 21 = .ok (.iload_n 1, 1) := by decide +kernel
theorem dX10_kilnOf_22 : decode cX10_kilnOf 22 = .ok (.invokevirtual 202, 3) := by decide +kernel
theorem dX10_kilnOf_25 : decode cX10_kilnOf 25 = .ok (.checkcast 99, 3) := by decide +kernel
theorem dX10_kilnOf_28 : decode cX10_kilnOf 28 = .ok (.goto 4, 3) := by decide +kernel
theorem dX10_kilnOf_31 : decode cX10_kilnOf 31 = .ok (.aconst_null, 1) := by decide +kernel
theorem dX10_kilnOf_32 : decode cX10_kilnOf 32 = .ok (.areturn, 1) := by decide +kernel
theorem dX10_kindOf_0 : decode cX10_kindOf 0 = .ok (.iload_n 0, 1) := by decide +kernel
theorem dX10_kindOf_1 : decode cX10_kindOf 1 = .ok (.lookupswitch 43 #[(1, 27), (2, 35)], 27) := by decide +kernel
theorem dX10_kindOf_28 : decode cX10_kindOf 28 = .ok (.new 284, 3) := by decide +kernel
theorem dX10_kindOf_31 : decode cX10_kindOf 31 = .ok (.dup, 1) := by decide +kernel
theorem dX10_kindOf_32 : decode cX10_kindOf 32 = .ok (.invokespecial 286, 3) := by decide +kernel
theorem dX10_kindOf_35 : decode cX10_kindOf 35 = .ok (.areturn, 1) := by decide +kernel
theorem dX10_kindOf_36 : decode cX10_kindOf 36 = .ok (.new 287, 3) := by decide +kernel
theorem dX10_kindOf_39 : decode cX10_kindOf 39 = .ok (.dup, 1) := by decide +kernel
theorem dX10_kindOf_40 : decode cX10_kindOf 40 = .ok (.invokespecial 289, 3) := by decide +kernel
theorem dX10_kindOf_43 : decode cX10_kindOf 43 = .ok (.areturn, 1) := by decide +kernel
theorem dX10_kindOf_44 : decode cX10_kindOf 44 = .ok (.new 120, 3) := by decide +kernel
theorem dX10_kindOf_47 : decode cX10_kindOf 47 = .ok (.dup, 1) := by decide +kernel
theorem dX10_kindOf_48 : decode cX10_kindOf 48 = .ok (.invokespecial 290, 3) := by decide +kernel
theorem dX10_kindOf_51 : decode cX10_kindOf 51 = .ok (.areturn, 1) := by decide +kernel
theorem dX10_within_0 : decode cX10_within 0 = .ok (.iload_n 0, 1) := by decide +kernel
theorem dX10_within_1 : decode cX10_within 1 = .ok (.iload_n 1, 1) := by decide +kernel
theorem dX10_within_2 : decode cX10_within 2 = .ok (.if_icmp .lt 12, 3) := by decide +kernel
theorem dX10_within_5 : decode cX10_within 5 = .ok (.iload_n 0, 1) := by decide +kernel
theorem dX10_within_6 : decode cX10_within 6 = .ok (.iload_n 2, 1) := by decide +kernel
theorem dX10_within_7 : decode cX10_within 7 = .ok (.if_icmp .gt 7, 3) := by decide +kernel
theorem dX10_within_10 : decode cX10_within 10 = .ok (.iconst 1, 1) := by decide +kernel
theorem dX10_within_11 : decode cX10_within 11 = .ok (.goto 4, 3) := by decide +kernel
theorem dX10_within_14 : decode cX10_within 14 = .ok (.iconst 0, 1) := by decide +kernel
theorem dX10_within_15 : decode cX10_within 15 = .ok (.ireturn, 1) := by decide +kernel
