theorem dX0_init_0 : decode cX0_init 0 = .ok (.aload_n 0, 1) := by decide +kernel
theorem dX0_init_1 : decode cX0_init 1 = .ok (.invokespecial 3, 3) := by decide +kernel
theorem dX0_init_4 : decode cX0_init 4 = .ok (.aload_n 0, 1) := by decide +kernel
theorem dX0_init_5 : decode cX0_init 5 = .ok (.bipush 64, 2) := by decide +kernel
theorem dX0_init_7 : decode cX0_init 7 = .ok (.newarray .int, 2) := by decide +kernel
theorem dX0_init_9 : decode cX0_init 9 = .ok (.putfield 11, 3) := by decide +kernel
theorem dX0_init_12 : decode cX0_init 12 = .ok (.aload_n 0, 1) := by decide +kernel
theorem dX0_init_13 : decode cX0_init 13 = .ok (.bipush 64, 2) := by decide +kernel
theorem dX0_init_15 : decode cX0_init 15 = .ok (.newarray .int, 2) := by decide +kernel
theorem dX0_init_17 : decode cX0_init 17 = .ok (.putfield 15, 3) := by decide +kernel
theorem dX0_init_20 : decode cX0_init 20 = .ok (.aload_n 0, 1) := by decide +kernel
theorem dX0_init_21 : decode cX0_init 21 = .ok (.bipush 64, 2) := by decide +kernel
theorem dX0_init_23 : decode cX0_init 23 = .ok (.newarray .int, 2) := by decide +kernel
theorem dX0_init_25 : decode cX0_init 25 = .ok (.putfield 18, 3) := by decide +kernel
theorem dX0_init_28 : decode cX0_init 28 = .ok (.aload_n 0, 1) := by decide +kernel
theorem dX0_init_29 : decode cX0_init 29 = .ok (.iconst 1, 1) := by decide +kernel
theorem dX0_init_30 : decode cX0_init 30 = .ok (.putfield 21, 3) := by decide +kernel
theorem dX0_init_33 : decode cX0_init 33 = .ok (.return_, 1) := by decide +kernel
theorem dX0_begin_0 : decode cX0_begin 0 = .ok (.aload_n 0, 1) := by decide +kernel
theorem dX0_begin_1 : decode cX0_begin 1 = .ok (.iconst 1, 1) := by decide +kernel
theorem dX0_begin_2 : decode cX0_begin 2 = .ok (.putfield 21, 3) := by decide +kernel
theorem dX0_begin_5 : decode cX0_begin 5 = .ok (.aload_n 0, 1) := by decide +kernel
theorem dX0_begin_6 : decode cX0_begin 6 = .ok (.getfield 18, 3) := by decide +kernel
theorem dX0_begin_9 : decode cX0_begin 9 = .ok (.iconst 0, 1) := by decide +kernel
theorem dX0_begin_10 : decode cX0_begin 10 = .ok (.iconst 0, 1) := by decide +kernel
theorem dX0_begin_11 : decode cX0_begin 11 = .ok (.iastore, 1) := by decide +kernel
theorem dX0_begin_12 : decode cX0_begin 12 = .ok (.iconst 1, 1) := by decide +kernel
theorem dX0_begin_13 : decode cX0_begin 13 = .ok (.istore_n 2, 1) := by decide +kernel
theorem dX0_begin_14 : decode cX0_begin 14 = .ok (.iconst 0, 1) := by decide +kernel
theorem dX0_begin_15 : decode cX0_begin 15 = .ok (.istore_n 3, 1) := by decide +kernel
theorem dX0_begin_16 : decode cX0_begin 16 = .ok (.iload_n 3, 1) := by decide +kernel
theorem dX0_begin_17 : decode cX0_begin 17 = .ok (.aload_n 1, 1) := by decide +kernel
theorem dX0_begin_18 : decode cX0_begin 18 = .ok (.invokevirtual 25, 3) := by decide +kernel
theorem dX0_begin_21 : decode cX0_begin 21 = .ok (.if_icmp .ge 36, 3) := by decide +kernel
theorem dX0_begin_24 : decode cX0_begin 24 = .ok (.iload_n 3, 1) := by decide +kernel
theorem dX0_begin_25 : decode cX0_begin 25 = .ok (.bipush 6, 2) := by decide +kernel
theorem dX0_begin_27 : decode cX0_begin 27 = .ok (.if_icmp .ge 30, 3) := by decide +kernel
theorem dX0_begin_30 : decode cX0_begin 30 = .ok (.aload_n 0, 1) := by decide +kernel
theorem dX0_begin_31 : decode cX0_begin 31 = .ok (.aload_n 1, 1) := by decide +kernel
theorem dX0_begin_32 : decode cX0_begin 32 = .ok (.iload_n 3, 1) := by decide +kernel
theorem dX0_begin_33 : decode cX0_begin 33 = .ok (.invokevirtual 31, 3) := by decide +kernel
theorem dX0_begin_36 : decode cX0_begin 36 = .ok (.checkcast 35, 3) := by decide +kernel
theorem dX0_begin_39 : decode cX0_begin 39 = .ok (.getfield 37, 3) := by decide +kernel
theorem dX0_begin_42 : decode cX0_begin 42 = .ok (.iload_n 2, 1) := by decide +kernel
theorem dX0_begin_43 : decode cX0_begin 43 = .ok (.invokevirtual 40, 3) := by decide +kernel
theorem dX0_begin_46 : decode cX0_begin 46 = .ok (.iload_n 2, 1) := by decide +kernel
theorem dX0_begin_47 : decode cX0_begin 47 = .ok (.bipush 7, 2) := by decide +kernel
theorem dX0_begin_49 : decode cX0_begin 49 = .ok (.imul, 1) := by decide +kernel
theorem dX0_begin_50 : decode cX0_begin 50 = .ok (.istore_n 2, 1) := by decide +kernel
theorem dX0_begin_51 : decode cX0_begin 51 = .ok (.iinc 3 1, 3) := by decide +kernel
theorem dX0_begin_54 : decode cX0_begin 54 = .ok (.goto (-38), 3) := by decide +kernel
theorem dX0_begin_57 : decode cX0_begin 57 = .ok (.return_, 1) := by decide +kernel
theorem dX0_addGang_0 : decode cX0_addGang 0 = .ok (.aload_n 0, 1) := by decide +kernel
theorem dX0_addGang_1 : decode cX0_addGang 1 = .ok (.getfield 21, 3) := by decide +kernel
theorem dX0_addGang_4 : decode cX0_addGang 4 = .ok (.istore_n 3, 1) := by decide +kernel
theorem dX0_addGang_5 : decode cX0_addGang 5 = .ok (.iconst 0, 1) := by decide +kernel
theorem dX0_addGang_6 : decode cX0_addGang 6 = .ok (.istore 4, 2) := by decide +kernel
theorem dX0_addGang_8 : decode cX0_addGang 8 = .ok (.iload 4, 2) := by decide +kernel
theorem dX0_addGang_10 : decode cX0_addGang 10 = .ok (.iload_n 3, 1) := by decide +kernel
theorem dX0_addGang_11 : decode cX0_addGang 11 = .ok (.if_icmp .ge 64, 3) := by decide +kernel
theorem dX0_addGang_14 : decode cX0_addGang 14 = .ok (.iload_n 3, 1) := by decide +kernel
theorem dX0_addGang_15 : decode cX0_addGang 15 = .ok (.iload 4, 2) := by decide +kernel
theorem dX0_addGang_17 : decode cX0_addGang 17 = .ok (.iadd, 1) := by decide +kernel
theorem dX0_addGang_18 : decode cX0_addGang 18 = .ok (.bipush 64, 2) := by decide +kernel
theorem dX0_addGang_20 : decode cX0_addGang 20 = .ok (.if_icmp .ge 55, 3) := by decide +kernel
theorem dX0_addGang_23 : decode cX0_addGang 23 = .ok (.aload_n 0, 1) := by decide +kernel
theorem dX0_addGang_24 : decode cX0_addGang 24 = .ok (.getfield 11, 3) := by decide +kernel
theorem dX0_addGang_27 : decode cX0_addGang 27 = .ok (.iload_n 3, 1) := by decide +kernel
theorem dX0_addGang_28 : decode cX0_addGang 28 = .ok (.iload 4, 2) := by decide +kernel
theorem dX0_addGang_30 : decode cX0_addGang 30 = .ok (.iadd, 1) := by decide +kernel
theorem dX0_addGang_31 : decode cX0_addGang 31 = .ok (.aload_n 0, 1) := by decide +kernel
theorem dX0_addGang_32 : decode cX0_addGang 32 = .ok (.getfield 11, 3) := by decide +kernel
theorem dX0_addGang_35 : decode cX0_addGang 35 = .ok (.iload 4, 2) := by decide +kernel
theorem dX0_addGang_37 : decode cX0_addGang 37 = .ok (.iaload, 1) := by decide +kernel
theorem dX0_addGang_38 : decode cX0_addGang 38 = .ok (.iload_n 1, 1) := by decide +kernel
theorem dX0_addGang_39 : decode cX0_addGang 39 = .ok (.iadd, 1) := by decide +kernel
theorem dX0_addGang_40 : decode cX0_addGang 40 = .ok (.iastore, 1) := by decide +kernel
theorem dX0_addGang_41 : decode cX0_addGang 41 = .ok (.aload_n 0, 1) := by decide +kernel
theorem dX0_addGang_42 : decode cX0_addGang 42 = .ok (.getfield 15, 3) := by decide +kernel
theorem dX0_addGang_45 : decode cX0_addGang 45 = .ok (.iload_n 3, 1) := by decide +kernel
theorem dX0_addGang_46 : decode cX0_addGang 46 = .ok (.iload 4, 2) := by decide +kernel
theorem dX0_addGang_48 : decode cX0_addGang 48 = .ok (.iadd, 1) := by decide +kernel
theorem dX0_addGang_49 : decode cX0_addGang 49 = .ok (.aload_n 0, 1) := by decide +kernel
theorem dX0_addGang_50 : decode cX0_addGang 50 = .ok (.getfield 15, 3) := by decide +kernel
theorem dX0_addGang_53 : decode cX0_addGang 53 = .ok (.iload 4, 2) := by decide +kernel
theorem dX0_addGang_55 : decode cX0_addGang 55 = .ok (.iaload, 1) := by decide +kernel
theorem dX0_addGang_56 : decode cX0_addGang 56 = .ok (.iload_n 2, 1) := by decide +kernel
theorem dX0_addGang_57 : decode cX0_addGang 57 = .ok (.iadd, 1) := by decide +kernel
theorem dX0_addGang_58 : decode cX0_addGang 58 = .ok (.iastore, 1) := by decide +kernel
theorem dX0_addGang_59 : decode cX0_addGang 59 = .ok (.aload_n 0, 1) := by decide +kernel
theorem dX0_addGang_60 : decode cX0_addGang 60 = .ok (.getfield 18, 3) := by decide +kernel
theorem dX0_addGang_63 : decode cX0_addGang 63 = .ok (.iload_n 3, 1) := by decide +kernel
theorem dX0_addGang_64 : decode cX0_addGang 64 = .ok (.iload 4, 2) := by decide +kernel
theorem dX0_addGang_66 : decode cX0_addGang 66 = .ok (.iadd, 1) := by decide +kernel
theorem dX0_addGang_67 : decode cX0_addGang 67 = .ok (.iconst 0, 1) := by decide +kernel
theorem dX0_addGang_68 : decode cX0_addGang 68 = .ok (.iastore, 1) := by decide +kernel
theorem dX0_addGang_69 : decode cX0_addGang 69 = .ok (.iinc 4 1, 3) := by decide +kernel
theorem dX0_addGang_72 : decode cX0_addGang 72 = .ok (.goto (-64), 3) := by decide +kernel
theorem dX0_addGang_75 : decode cX0_addGang 75 = .ok (.aload_n 0, 1) := by decide +kernel
theorem dX0_addGang_76 : decode cX0_addGang 76 = .ok (.iconst 2, 1) := by decide +kernel
theorem dX0_addGang_77 : decode cX0_addGang 77 = .ok (.iload_n 3, 1) := by decide +kernel
theorem dX0_addGang_78 : decode cX0_addGang 78 = .ok (.imul, 1) := by decide +kernel
theorem dX0_addGang_79 : decode cX0_addGang 79 = .ok (.bipush 64, 2) := by decide +kernel
theorem dX0_addGang_81 : decode cX0_addGang 81 = .ok (.invokestatic 44, 3) := by decide +kernel
theorem dX0_addGang_84 : decode cX0_addGang 84 = .ok (.putfield 21, 3) := by decide +kernel
theorem dX0_addGang_87 : decode cX0_addGang 87 = .ok (.return_, 1) := by decide +kernel
theorem dX0_offer_0 : decode cX0_offer 0 = .ok (.aload_n 0, 1) := by decide +kernel
theorem dX0_offer_1 : decode cX0_offer 1 = .ok (.getfield 21, 3) := by decide +kernel
theorem dX0_offer_4 : decode cX0_offer 4 = .ok (.iconst 1, 1) := by decide +kernel
theorem dX0_offer_5 : decode cX0_offer 5 = .ok (.isub, 1) := by decide +kernel
theorem dX0_offer_6 : decode cX0_offer 6 = .ok (.istore_n 3, 1) := by decide +kernel
theorem dX0_offer_7 : decode cX0_offer 7 = .ok (.iload_n 3, 1) := by decide +kernel
theorem dX0_offer_8 : decode cX0_offer 8 = .ok (.ifCond .le 98, 3) := by decide +kernel
theorem dX0_offer_11 : decode cX0_offer 11 = .ok (.aload_n 0, 1) := by decide +kernel
theorem dX0_offer_12 : decode cX0_offer 12 = .ok (.getfield 18, 3) := by decide +kernel
theorem dX0_offer_15 : decode cX0_offer 15 = .ok (.iload_n 3, 1) := by decide +kernel
theorem dX0_offer_16 : decode cX0_offer 16 = .ok (.iaload, 1) := by decide +kernel
theorem dX0_offer_17 : decode cX0_offer 17 = .ok (.istore 4, 2) := by decide +kernel
theorem dX0_offer_19 : decode cX0_offer 19 = .ok (.iload_n 3, 1) := by decide +kernel
theorem dX0_offer_20 : decode cX0_offer 20 = .ok (.istore 5, 2) := by decide +kernel
theorem dX0_offer_22 : decode cX0_offer 22 = .ok (.iload 5, 2) := by decide +kernel
theorem dX0_offer_24 : decode cX0_offer 24 = .ok (.ifCond .le 68, 3) := by decide +kernel
theorem dX0_offer_27 : decode cX0_offer 27 = .ok (.aload_n 0, 1) := by decide +kernel
theorem dX0_offer_28 : decode cX0_offer 28 = .ok (.getfield 11, 3) := by decide +kernel
theorem dX0_offer_31 : decode cX0_offer 31 = .ok (.iload 5, 2) := by decide +kernel
theorem dX0_offer_33 : decode cX0_offer 33 = .ok (.iaload, 1) := by decide +kernel
theorem dX0_offer_34 : decode cX0_offer 34 = .ok (.bipush 12, 2) := by decide +kernel
theorem dX0_offer_36 : decode cX0_offer 36 = .ok (.imul, 1) := by decide +kernel
theorem dX0_offer_37 : decode cX0_offer 37 = .ok (.iload_n 2, 1) := by decide +kernel
theorem dX0_offer_38 : decode cX0_offer 38 = .ok (.invokestatic 44, 3) := by decide +kernel
theorem dX0_offer_41 : decode cX0_offer 41 = .ok (.istore 6, 2) := by decide +kernel
theorem dX0_offer_43 : decode cX0_offer 43 = .ok (.iload 6, 2) := by decide +kernel
theorem dX0_offer_45 : decode cX0_offer 45 = .ok (.ldc 50, 2) := by decide +kernel
theorem dX0_offer_47 : decode cX0_offer 47 = .ok (.imul, 1) := by decide +kernel
theorem dX0_offer_48 : decode cX0_offer 48 = .ok (.aload_n 0, 1) := by decide +kernel
theorem dX0_offer_49 : decode cX0_offer 49 = .ok (.getfield 15, 3) := by decide +kernel
theorem dX0_offer_52 : decode cX0_offer 52 = .ok (.iload 5, 2) := by decide +kernel
theorem dX0_offer_54 : decode cX0_offer 54 = .ok (.iaload, 1) := by decide +kernel
theorem dX0_offer_55 : decode cX0_offer 55 = .ok (.iload_n 1, 1) := by decide +kernel
theorem dX0_offer_56 : decode cX0_offer 56 = .ok (.iconst 1, 1) := by decide +kernel
theorem dX0_offer_57 : decode cX0_offer 57 = .ok (.iadd, 1) := by decide +kernel
theorem dX0_offer_58 : decode cX0_offer 58 = .ok (.imul, 1) := by decide +kernel
theorem dX0_offer_59 : decode cX0_offer 59 = .ok (.isub, 1) := by decide +kernel
theorem dX0_offer_60 : decode cX0_offer 60 = .ok (.istore 7, 2) := by decide +kernel
theorem dX0_offer_62 : decode cX0_offer 62 = .ok (.iload 4, 2) := by decide +kernel
theorem dX0_offer_64 : decode cX0_offer 64 = .ok (.iload 7, 2) := by decide +kernel
theorem dX0_offer_66 : decode cX0_offer 66 = .ok (.aload_n 0, 1) := by decide +kernel
theorem dX0_offer_67 : decode cX0_offer 67 = .ok (.getfield 18, 3) := by decide +kernel
theorem dX0_offer_70 : decode cX0_offer 70 = .ok (.iload_n 3, 1) := by decide +kernel
theorem dX0_offer_71 : decode cX0_offer 71 = .ok (.iload 5, 2) := by decide +kernel
theorem dX0_offer_73 : decode cX0_offer 73 = .ok (.ixor, 1) := by decide +kernel
theorem dX0_offer_74 : decode cX0_offer 74 = .ok (.iaload, 1) := by decide +kernel
theorem dX0_offer_75 : decode cX0_offer 75 = .ok (.iadd, 1) := by decide +kernel
theorem dX0_offer_76 : decode cX0_offer 76 = .ok (.invokestatic 51, 3) := by decide +kernel
theorem dX0_offer_79 : decode cX0_offer 79 = .ok (.istore 4, 2) := by decide +kernel
theorem dX0_offer_81 : decode cX0_offer 81 = .ok (.iload 5, 2) := by decide +kernel
theorem dX0_offer_83 : decode cX0_offer 83 = .ok (.iconst 1, 1) := by decide +kernel
theorem dX0_offer_84 : decode cX0_offer 84 = .ok (.isub, 1) := by decide +kernel
theorem dX0_offer_85 : decode cX0_offer 85 = .ok (.iload_n 3, 1) := by decide +kernel
theorem dX0_offer_86 : decode cX0_offer 86 = .ok (.iand, 1) := by decide +kernel
theorem dX0_offer_87 : decode cX0_offer 87 = .ok (.istore 5, 2) := by decide +kernel
theorem dX0_offer_89 : decode cX0_offer 89 = .ok (.goto (-67), 3) := by decide +kernel
theorem dX0_offer_92 : decode cX0_offer 92 = .ok (.aload_n 0, 1) := by decide +kernel
theorem dX0_offer_93 : decode cX0_offer 93 = .ok (.getfield 18, 3) := by decide +kernel
theorem dX0_offer_96 : decode cX0_offer 96 = .ok (.iload_n 3, 1) := by decide +kernel
theorem dX0_offer_97 : decode cX0_offer 97 = .ok (.iload 4, 2) := by decide +kernel
theorem dX0_offer_99 : decode cX0_offer 99 = .ok (.iastore, 1) := by decide +kernel
theorem dX0_offer_100 : decode cX0_offer 100 = .ok (.iinc 3 (-1), 3) := by decide +kernel
theorem dX0_offer_103 : decode cX0_offer 103 = .ok (.goto (-96), 3) := by decide +kernel
theorem dX0_offer_106 : decode cX0_offer 106 = .ok (.return_, 1) := by decide +kernel
theorem dX0_bushels_0 : decode cX0_bushels 0 = .ok (.aload_n 0, 1) := by decide +kernel
theorem dX0_bushels_1 : decode cX0_bushels 1 = .ok (.getfield 18, 3) := by decide +kernel
theorem dX0_bushels_4 : decode cX0_bushels 4 = .ok (.aload_n 0, 1) := by decide +kernel
theorem dX0_bushels_5 : decode cX0_bushels 5 = .ok (.getfield 21, 3) := by decide +kernel
theorem dX0_bushels_8 : decode cX0_bushels 8 = .ok (.iconst 1, 1) := by decide +kernel
theorem dX0_bushels_9 : decode cX0_bushels 9 = .ok (.isub, 1) := by decide +kernel
theorem dX0_bushels_10 : decode cX0_bushels 10 = .ok (.iaload, 1) := by decide +kernel
theorem dX0_bushels_11 : decode cX0_bushels 11 = .ok (.ldc 50, 2) := by decide +kernel
theorem dX0_bushels_13 : decode cX0_bushels 13 = .ok (.iadd, 1) := by decide +kernel
theorem dX0_bushels_14 : decode cX0_bushels 14 = .ok (.iconst 1, 1) := by decide +kernel
theorem dX0_bushels_15 : decode cX0_bushels 15 = .ok (.isub, 1) := by decide +kernel
theorem dX0_bushels_16 : decode cX0_bushels 16 = .ok (.ldc 50, 2) := by decide +kernel
theorem dX0_bushels_18 : decode cX0_bushels 18 = .ok (.idiv, 1) := by decide +kernel
theorem dX0_bushels_19 : decode cX0_bushels 19 = .ok (.ireturn, 1) := by decide +kernel
theorem dX0_number_0 : decode cX0_number 0 = .ok (.aload_n 0, 1) := by decide +kernel
theorem dX0_number_1 : decode cX0_number 1 = .ok (.invokevirtual 54, 3) := by decide +kernel
theorem dX0_number_4 : decode cX0_number 4 = .ok (.ldc 50, 2) := by decide +kernel
theorem dX0_number_6 : decode cX0_number 6 = .ok (.imul, 1) := by decide +kernel
theorem dX0_number_7 : decode cX0_number 7 = .ok (.aload_n 0, 1) := by decide +kernel
theorem dX0_number_8 : decode cX0_number 8 = .ok (.getfield 18, 3) := by decide +kernel
theorem dX0_number_11 : decode cX0_number 11 = .ok (.aload_n 0, 1) := by decide +kernel
theorem dX0_number_12 : decode cX0_number 12 = .ok (.getfield 21, 3) := by decide +kernel
theorem dX0_number_15 : decode cX0_number 15 = .ok (.iconst 1, 1) := by decide +kernel
theorem dX0_number_16 : decode cX0_number 16 = .ok (.isub, 1) := by decide +kernel
theorem dX0_number_17 : decode cX0_number 17 = .ok (.iaload, 1) := by decide +kernel
theorem dX0_number_18 : decode cX0_number 18 = .ok (.isub, 1) := by decide +kernel
theorem dX0_number_19 : decode cX0_number 19 = .ok (.ireturn, 1) := by decide +kernel
theorem dX1_init_0 : decode cX1_init 0 = .ok (.aload_n 0, 1) := by decide +kernel
theorem dX1_init_1 : decode cX1_init 1 = .ok (.invokespecial 1, 3) := by decide +kernel
theorem dX1_init_4 : decode cX1_init 4 = .ok (.return_, 1) := by decide +kernel
theorem dX1_dries_0 : decode cX1_dries 0 = .ok (.iconst 2, 1) := by decide +kernel
theorem dX1_dries_1 : decode cX1_dries 1 = .ok (.aload_n 0, 1) := by decide +kernel
theorem dX1_dries_2 : decode cX1_dries 2 = .ok (.iload_n 1, 1) := by decide +kernel
theorem dX1_dries_3 : decode cX1_dries 3 = .ok (.invokespecial 7, 3) := by decide +kernel
theorem dX1_dries_6 : decode cX1_dries 6 = .ok (.imul, 1) := by decide +kernel
theorem dX1_dries_7 : decode cX1_dries 7 = .ok (.bipush 40, 2) := by decide +kernel
theorem dX1_dries_9 : decode cX1_dries 9 = .ok (.invokestatic 11, 3) := by decide +kernel
theorem dX1_dries_12 : decode cX1_dries 12 = .ok (.ireturn, 1) := by decide +kernel
theorem dX1_marks_0 : decode cX1_marks 0 = .ok (.aload_n 0, 1) := by decide +kernel
theorem dX1_marks_1 : decode cX1_marks 1 = .ok (.invokespecial 17, 3) := by decide +kernel
theorem dX1_marks_4 : decode cX1_marks 4 = .ok (.bipush 100, 2) := by decide +kernel
theorem dX1_marks_6 : decode cX1_marks 6 = .ok (.iadd, 1) := by decide +kernel
theorem dX1_marks_7 : decode cX1_marks 7 = .ok (.ireturn, 1) := by decide +kernel
theorem dX2_init_0 : decode cX2_init 0 = .ok (.aload_n 0, 1) := by decide +kernel
theorem dX2_init_1 : decode cX2_init 1 = .ok (.invokespecial 1, 3) := by decide +kernel
theorem dX2_init_4 : decode cX2_init 4 = .ok (.return_, 1) := by decide +kernel
theorem dX2_dries_0 : decode cX2_dries 0 = .ok (.aload_n 0, 1) := by decide +kernel
theorem dX2_dries_1 : decode cX2_dries 1 = .ok (.iload_n 1, 1) := by decide +kernel
theorem dX2_dries_2 : decode cX2_dries 2 = .ok (.invokespecial 7, 3) := by decide +kernel
theorem dX2_dries_5 : decode cX2_dries 5 = .ok (.istore_n 2, 1) := by decide +kernel
theorem dX2_dries_6 : decode cX2_dries 6 = .ok (.iload_n 1, 1) := by decide +kernel
theorem dX2_dries_7 : decode cX2_dries 7 = .ok (.bipush 40, 2) := by decide +kernel
theorem dX2_dries_9 : decode cX2_dries 9 = .ok (.if_icmp .lt 9, 3) := by decide +kernel
theorem dX2_dries_12 : decode cX2_dries 12 = .ok (.iload_n 2, 1) := by decide +kernel
theorem dX2_dries_13 : decode cX2_dries 13 = .ok (.iconst 3, 1) := by decide +kernel
theorem dX2_dries_14 : decode cX2_dries 14 = .ok (.iadd, 1) := by decide +kernel
theorem dX2_dries_15 : decode cX2_dries 15 = .ok (.goto 4, 3) := by decide +kernel
theorem dX2_dries_18 : decode cX2_dries 18 = .ok (.iload_n 2, 1) := by decide +kernel
theorem dX2_dries_19 : decode cX2_dries 19 = .ok (.ireturn, 1) := by decide +kernel
theorem dX2_marks_0 : decode cX2_marks 0 = .ok (.aload_n 0, 1) := by decide +kernel
theorem dX2_marks_1 : decode cX2_marks 1 = .ok (.invokespecial 11, 3) := by decide +kernel
theorem dX2_marks_4 : decode cX2_marks 4 = .ok (.bipush 10, 2) := by decide +kernel
theorem dX2_marks_6 : decode cX2_marks 6 = .ok (.iadd, 1) := by decide +kernel
theorem dX2_marks_7 : decode cX2_marks 7 = .ok (.ireturn, 1) := by decide +kernel
theorem dX3_init_0 : decode cX3_init 0 = .ok (.aload_n 0, 1) := by decide +kernel
theorem dX3_init_1 : decode cX3_init 1 = .ok (.invokespecial 3, 3) := by decide +kernel
theorem dX3_init_4 : decode cX3_init 4 = .ok (.aload_n 0, 1) := by decide +kernel
theorem dX3_init_5 : decode cX3_init 5 = .ok (.iload_n 1, 1) := by decide +kernel
theorem dX3_init_6 : decode cX3_init 6 = .ok (.putfield 9, 3) := by decide +kernel
theorem dX3_init_9 : decode cX3_init 9 = .ok (.aload_n 0, 1) := by decide +kernel
theorem dX3_init_10 : decode cX3_init 10 = .ok (.iload_n 2, 1) := by decide +kernel
theorem dX3_init_11 : decode cX3_init 11 = .ok (.putfield 15, 3) := by decide +kernel
theorem dX3_init_14 : decode cX3_init 14 = .ok (.aload_n 0, 1) := by decide +kernel
theorem dX3_init_15 : decode cX3_init 15 = .ok (.bipush (-9), 2) := by decide +kernel
theorem dX3_init_17 : decode cX3_init 17 = .ok (.putfield 18, 3) := by decide +kernel
theorem dX3_init_20 : decode cX3_init 20 = .ok (.return_, 1) := by decide +kernel
theorem dX3_enter_0 : decode cX3_enter 0 = .ok (.iload_n 1, 1) := by decide +kernel
theorem dX3_enter_1 : decode cX3_enter 1 = .ok (.bipush 100, 2) := by decide +kernel
theorem dX3_enter_3 : decode cX3_enter 3 = .ok (.imul, 1) := by decide +kernel
theorem dX3_enter_4 : decode cX3_enter 4 = .ok (.aload_n 0, 1) := by decide +kernel
theorem dX3_enter_5 : decode cX3_enter 5 = .ok (.getfield 15, 3) := by decide +kernel
theorem dX3_enter_8 : decode cX3_enter 8 = .ok (.idiv, 1) := by decide +kernel
theorem dX3_enter_9 : decode cX3_enter 9 = .ok (.istore_n 3, 1) := by decide +kernel
theorem dX3_enter_10 : decode cX3_enter 10 = .ok (.aload_n 0, 1) := by decide +kernel
theorem dX3_enter_11 : decode cX3_enter 11 = .ok (.dup, 1) := by decide +kernel
theorem dX3_enter_12 : decode cX3_enter 12 = .ok (.getfield 21, 3) := by decide +kernel
theorem dX3_enter_15 : decode cX3_enter 15 = .ok (.iload_n 1, 1) := by decide +kernel
theorem dX3_enter_16 : decode cX3_enter 16 = .ok (.iadd, 1) := by decide +kernel
theorem dX3_enter_17 : decode cX3_enter 17 = .ok (.putfield 21, 3) := by decide +kernel
theorem dX3_enter_20 : decode cX3_enter 20 = .ok (.aload_n 0, 1) := by decide +kernel
theorem dX3_enter_21 : decode cX3_enter 21 = .ok (.dup, 1) := by decide +kernel
theorem dX3_enter_22 : decode cX3_enter 22 = .ok (.getfield 24, 3) := by decide +kernel
theorem dX3_enter_25 : decode cX3_enter 25 = .ok (.iload_n 3, 1) := by decide +kernel
theorem dX3_enter_26 : decode cX3_enter 26 = .ok (.iadd, 1) := by decide +kernel
theorem dX3_enter_27 : decode cX3_enter 27 = .ok (.putfield 24, 3) := by decide +kernel
theorem dX3_enter_30 : decode cX3_enter 30 = .ok (.aload_n 0, 1) := by decide +kernel
theorem dX3_enter_31 : decode cX3_enter 31 = .ok (.dup, 1) := by decide +kernel
theorem dX3_enter_32 : decode cX3_enter 32 = .ok (.getfield 27, 3) := by decide +kernel
theorem dX3_enter_35 : decode cX3_enter 35 = .ok (.iload_n 3, 1) := by decide +kernel
theorem dX3_enter_36 : decode cX3_enter 36 = .ok (.iload_n 2, 1) := by decide +kernel
theorem dX3_enter_37 : decode cX3_enter 37 = .ok (.imul, 1) := by decide +kernel
theorem dX3_enter_38 : decode cX3_enter 38 = .ok (.iadd, 1) := by decide +kernel
theorem dX3_enter_39 : decode cX3_enter 39 = .ok (.putfield 27, 3) := by decide +kernel
theorem dX3_enter_42 : decode cX3_enter 42 = .ok (.return_, 1) := by decide +kernel
theorem dX4_init_0 : decode cX4_init 0 = .ok (.aload_n 0, 1) := by decide +kernel
theorem dX4_init_1 : decode cX4_init 1 = .ok (.invokespecial 1, 3) := by decide +kernel
theorem dX4_init_4 : decode cX4_init 4 = .ok (.aload_n 0, 1) := by decide +kernel
theorem dX4_init_5 : decode cX4_init 5 = .ok (.iload_n 2, 1) := by decide +kernel
theorem dX4_init_6 : decode cX4_init 6 = .ok (.putfield 7, 3) := by decide +kernel
theorem dX4_init_9 : decode cX4_init 9 = .ok (.aload_n 0, 1) := by decide +kernel
theorem dX4_init_10 : decode cX4_init 10 = .ok (.iload_n 3, 1) := by decide +kernel
theorem dX4_init_11 : decode cX4_init 11 = .ok (.putfield 13, 3) := by decide +kernel
theorem dX4_init_14 : decode cX4_init 14 = .ok (.aload_n 0, 1) := by decide +kernel
theorem dX4_init_15 : decode cX4_init 15 = .ok (.iload_n 1, 1) := by decide +kernel
theorem dX4_init_16 : decode cX4_init 16 = .ok (.putfield 16, 3) := by decide +kernel
theorem dX4_init_19 : decode cX4_init 19 = .ok (.return_, 1) := by decide +kernel
theorem dX4_isRipe_0 : decode cX4_isRipe 0 = .ok (.iload_n 1, 1) := by decide +kernel
theorem dX4_isRipe_1 : decode cX4_isRipe 1 = .ok (.aload_n 0, 1) := by decide +kernel
theorem dX4_isRipe_2 : decode cX4_isRipe 2 = .ok (.getfield 7, 3) := by decide +kernel
theorem dX4_isRipe_5 : decode cX4_isRipe 5 = .ok (.aload_n 0, 1) := by decide +kernel
theorem dX4_isRipe_6 : decode cX4_isRipe 6 = .ok (.getfield 13, 3) := by decide +kernel
theorem dX4_isRipe_9 : decode cX4_isRipe 9 = .ok (.invokestatic 19, 3) := by decide +kernel
theorem dX4_isRipe_12 : decode cX4_isRipe 12 = .ok (.ireturn, 1) := by decide +kernel
theorem dX4_yields_0 : decode cX4_yields 0 = .ok (.iload_n 1, 1) := by decide +kernel
theorem dX4_yields_1 : decode cX4_yields 1 = .ok (.aload_n 0, 1) := by decide +kernel
theorem dX4_yields_2 : decode cX4_yields 2 = .ok (.getfield 16, 3) := by decide +kernel
theorem dX4_yields_5 : decode cX4_yields 5 = .ok (.invokestatic 25, 3) := by decide +kernel
theorem dX4_yields_8 : decode cX4_yields 8 = .ok (.istore_n 2, 1) := by decide +kernel
theorem dX4_yields_9 : decode cX4_yields 9 = .ok (.aload_n 0, 1) := by decide +kernel
theorem dX4_yields_10 : decode cX4_yields 10 = .ok (.dup, 1) := by decide +kernel
theorem dX4_yields_11 : decode cX4_yields 11 = .ok (.getfield 16, 3) := by decide +kernel
theorem dX4_yields_14 : decode cX4_yields 14 = .ok (.iload_n 2, 1) := by decide +kernel
theorem dX4_yields_15 : decode cX4_yields 15 = .ok (.isub, 1) := by decide +kernel
theorem dX4_yields_16 : decode cX4_yields 16 = .ok (.putfield 16, 3) := by decide +kernel
theorem dX4_yields_19 : decode cX4_yields 19 = .ok (.aload_n 0, 1) := by decide +kernel
theorem dX4_yields_20 : decode cX4_yields 20 = .ok (.dup, 1) := by decide +kernel
theorem dX4_yields_21 : decode cX4_yields 21 = .ok (.getfield 31, 3) := by decide +kernel
theorem dX4_yields_24 : decode cX4_yields 24 = .ok (.iload_n 2, 1) := by decide +kernel
theorem dX4_yields_25 : decode cX4_yields 25 = .ok (.iadd, 1) := by decide +kernel
theorem dX4_yields_26 : decode cX4_yields 26 = .ok (.putfield 31, 3) := by decide +kernel
theorem dX4_yields_29 : decode cX4_yields 29 = .ok (.iload_n 2, 1) := by decide +kernel
theorem dX4_yields_30 : decode cX4_yields 30 = .ok (.ireturn, 1) := by decide +kernel
theorem dX5_init_0 : decode cX5_init 0 = .ok (.aload_n 0, 1) := by decide +kernel
theorem dX5_init_1 : decode cX5_init 1 = .ok (.invokespecial 3, 3) := by decide +kernel
theorem dX5_init_4 : decode cX5_init 4 = .ok (.aload_n 0, 1) := by decide +kernel
theorem dX5_init_5 : decode cX5_init 5 = .ok (.sipush 150, 3) := by decide +kernel
theorem dX5_init_8 : decode cX5_init 8 = .ok (.newarray .int, 2) := by decide +kernel
theorem dX5_init_10 : decode cX5_init 10 = .ok (.putfield 11, 3) := by decide +kernel
theorem dX5_init_13 : decode cX5_init 13 = .ok (.return_, 1) := by decide +kernel
theorem dX5_place_0 : decode cX5_place 0 = .ok (.iload_n 0, 1) := by decide +kernel
theorem dX5_place_1 : decode cX5_place 1 = .ok (.bipush 25, 2) := by decide +kernel
theorem dX5_place_3 : decode cX5_place 3 = .ok (.invokestatic 15, 3) := by decide +kernel
theorem dX5_place_6 : decode cX5_place 6 = .ok (.bipush 6, 2) := by decide +kernel
theorem dX5_place_8 : decode cX5_place 8 = .ok (.imul, 1) := by decide +kernel
theorem dX5_place_9 : decode cX5_place 9 = .ok (.iload_n 1, 1) := by decide +kernel
theorem dX5_place_10 : decode cX5_place 10 = .ok (.iadd, 1) := by decide +kernel
theorem dX5_place_11 : decode cX5_place 11 = .ok (.ireturn, 1) := by decide +kernel
theorem dX5_lay_0 : decode cX5_lay 0 = .ok (.iload_n 2, 1) := by decide +kernel
theorem dX5_lay_1 : decode cX5_lay 1 = .ok (.iconst 0, 1) := by decide +kernel
theorem dX5_lay_2 : decode cX5_lay 2 = .ok (.iconst 5, 1) := by decide +kernel
theorem dX5_lay_3 : decode cX5_lay 3 = .ok (.invokestatic 21, 3) := by decide +kernel
theorem dX5_lay_6 : decode cX5_lay 6 = .ok (.ifCond .ne 4, 3) := by decide +kernel
theorem dX5_lay_9 : decode cX5_lay 9 = .ok (.return_, 1) := by decide +kernel
theorem dX5_lay_10 : decode cX5_lay 10 = .ok (.aload_n 0, 1) := by decide +kernel
theorem dX5_lay_11 : decode cX5_lay 11 = .ok (.getfield 11, 3) := by decide +kernel
theorem dX5_lay_14 : decode cX5_lay 14 = .ok (.iload_n 1, 1) := by decide +kernel
theorem dX5_lay_15 : decode cX5_lay 15 = .ok (.iload_n 2, 1) := by decide +kernel
theorem dX5_lay_16 : decode cX5_lay 16 = .ok (.invokestatic 25, 3) := by decide +kernel
theorem dX5_lay_19 : decode cX5_lay 19 = .ok (.dup2, 1) := by decide +kernel
theorem dX5_lay_20 : decode cX5_lay 20 = .ok (.iaload, 1) := by decide +kernel
theorem dX5_lay_21 : decode cX5_lay 21 = .ok (.iload_n 3, 1) := by decide +kernel
theorem dX5_lay_22 : decode cX5_lay 22 = .ok (.iadd, 1) := by decide +kernel
theorem dX5_lay_23 : decode cX5_lay 23 = .ok (.iastore, 1) := by decide +kernel
theorem dX5_lay_24 : decode cX5_lay 24 = .ok (.aload_n 0, 1) := by decide +kernel
theorem dX5_lay_25 : decode cX5_lay 25 = .ok (.dup, 1) := by decide +kernel
theorem dX5_lay_26 : decode cX5_lay 26 = .ok (.getfield 28, 3) := by decide +kernel
theorem dX5_lay_29 : decode cX5_lay 29 = .ok (.iload_n 3, 1) := by decide +kernel
theorem dX5_lay_30 : decode cX5_lay 30 = .ok (.iadd, 1) := by decide +kernel
theorem dX5_lay_31 : decode cX5_lay 31 = .ok (.putfield 28, 3) := by decide +kernel
theorem dX5_lay_34 : decode cX5_lay 34 = .ok (.return_, 1) := by decide +kernel
theorem dX5_give_0 : decode cX5_give 0 = .ok (.iload_n 2, 1) := by decide +kernel
theorem dX5_give_1 : decode cX5_give 1 = .ok (.iconst 0, 1) := by decide +kernel
theorem dX5_give_2 : decode cX5_give 2 = .ok (.iconst 5, 1) := by decide +kernel
theorem dX5_give_3 : decode cX5_give 3 = .ok (.invokestatic 21, 3) := by decide +kernel
theorem dX5_give_6 : decode cX5_give 6 = .ok (.ifCond .ne 5, 3) := by decide +kernel
theorem dX5_give_9 : decode cX5_give 9 = .ok (.iconst 0, 1) := by decide +kernel
theorem dX5_give_10 : decode cX5_give 10 = .ok (.ireturn, 1) := by decide +kernel
theorem dX5_give_11 : decode cX5_give 11 = .ok (.iload_n 1, 1) := by decide +kernel
theorem dX5_give_12 : decode cX5_give 12 = .ok (.iload_n 2, 1) := by decide +kernel
theorem dX5_give_13 : decode cX5_give 13 = .ok (.invokestatic 25, 3) := by decide +kernel
theorem dX5_give_16 : decode cX5_give 16 = .ok (.istore 4, 2) := by decide +kernel
theorem dX5_give_18 : decode cX5_give 18 = .ok (.aload_n 0, 1) := by decide +kernel
theorem dX5_give_19 : decode cX5_give 19 = .ok (.getfield 11, 3) := by decide +kernel
theorem dX5_give_22 : decode cX5_give 22 = .ok (.iload 4, 2) := by decide +kernel
theorem dX5_give_24 : decode cX5_give 24 = .ok (.iaload, 1) := by decide +kernel
theorem dX5_give_25 : decode cX5_give 25 = .ok (.iload_n 3, 1) := by decide +kernel
theorem dX5_give_26 : decode cX5_give 26 = .ok (.invokestatic 32, 3) := by decide +kernel
theorem dX5_give_29 : decode cX5_give 29 = .ok (.istore 5, 2) := by decide +kernel
theorem dX5_give_31 : decode cX5_give 31 = .ok (.aload_n 0, 1) := by decide +kernel
theorem dX5_give_32 : decode cX5_give 32 = .ok (.getfield 11, 3) := by decide +kernel
theorem dX5_give_35 : decode cX5_give 35 = .ok (.iload 4, 2) := by decide +kernel
theorem dX5_give_37 : decode cX5_give 37 = .ok (.dup2, 1) := by decide +kernel
theorem dX5_give_38 : decode cX5_give 38 = .ok (.iaload, 1) := by decide +kernel
theorem dX5_give_39 : decode cX5_give 39 = .ok (.iload 5, 2) := by decide +kernel
theorem dX5_give_41 : decode cX5_give 41 = .ok (.isub, 1) := by decide +kernel
theorem dX5_give_42 : decode cX5_give 42 = .ok (.iastore, 1) := by decide +kernel
theorem dX5_give_43 : decode cX5_give 43 = .ok (.aload_n 0, 1) := by decide +kernel
theorem dX5_give_44 : decode cX5_give 44 = .ok (.dup, 1) := by decide +kernel
theorem dX5_give_45 : decode cX5_give 45 = .ok (.getfield 28, 3) := by decide +kernel
theorem dX5_give_48 : decode cX5_give 48 = .ok (.iload 5, 2) := by decide +kernel
theorem dX5_give_50 : decode cX5_give 50 = .ok (.isub, 1) := by decide +kernel
theorem dX5_give_51 : decode cX5_give 51 = .ok (.putfield 28, 3) := by decide +kernel
theorem dX5_give_54 : decode cX5_give 54 = .ok (.iload 5, 2) := by decide +kernel
theorem dX5_give_56 : decode cX5_give 56 = .ok (.ireturn, 1) := by decide +kernel
theorem dX5_ofHour_0 : decode cX5_ofHour 0 = .ok (.iconst 0, 1) := by decide +kernel
theorem dX5_ofHour_1 : decode cX5_ofHour 1 = .ok (.istore_n 2, 1) := by decide +kernel
theorem dX5_ofHour_2 : decode cX5_ofHour 2 = .ok (.iconst 0, 1) := by decide +kernel
theorem dX5_ofHour_3 : decode cX5_ofHour 3 = .ok (.istore_n 3, 1) := by decide +kernel
theorem dX5_ofHour_4 : decode cX5_ofHour 4 = .ok (.iload_n 3, 1) := by decide +kernel
theorem dX5_ofHour_5 : decode cX5_ofHour 5 = .ok (.bipush 6, 2) := by decide +kernel
theorem dX5_ofHour_7 : decode cX5_ofHour 7 = .ok (.if_icmp .ge 22, 3) := by decide +kernel
theorem dX5_ofHour_10 : decode cX5_ofHour 10 = .ok (.iload_n 2, 1) := by decide +kernel
theorem dX5_ofHour_11 : decode cX5_ofHour 11 = .ok (.aload_n 0, 1) := by decide +kernel
theorem dX5_ofHour_12 : decode cX5_ofHour 12 = .ok (.getfield 11, 3) := by decide +kernel
theorem dX5_ofHour_15 : decode cX5_ofHour 15 = .ok (.iload_n 1, 1) := by decide +kernel
theorem dX5_ofHour_16 : decode cX5_ofHour 16 = .ok (.iload_n 3, 1) := by decide +kernel
theorem dX5_ofHour_17 : decode cX5_ofHour 17 = .ok (.invokestatic 25, 3) := by decide +kernel
theorem dX5_ofHour_20 : decode cX5_ofHour 20 = .ok (.iaload, 1) := by decide +kernel
theorem dX5_ofHour_21 : decode cX5_ofHour 21 = .ok (.iadd, 1) := by decide +kernel
theorem dX5_ofHour_22 : decode cX5_ofHour 22 = .ok (.istore_n 2, 1) := by decide +kernel
theorem dX5_ofHour_23 : decode cX5_ofHour 23 = .ok (.iinc 3 1, 3) := by decide +kernel
theorem dX5_ofHour_26 : decode cX5_ofHour 26 = .ok (.goto (-22), 3) := by decide +kernel
theorem dX5_ofHour_29 : decode cX5_ofHour 29 = .ok (.iload_n 2, 1) := by decide +kernel
theorem dX5_ofHour_30 : decode cX5_ofHour 30 = .ok (.ireturn, 1) := by decide +kernel
theorem dX5_ofGarden_0 : decode cX5_ofGarden 0 = .ok (.iload_n 1, 1) := by decide +kernel
theorem dX5_ofGarden_1 : decode cX5_ofGarden 1 = .ok (.iconst 0, 1) := by decide +kernel
theorem dX5_ofGarden_2 : decode cX5_ofGarden 2 = .ok (.iconst 5, 1) := by decide +kernel
theorem dX5_ofGarden_3 : decode cX5_ofGarden 3 = .ok (.invokestatic 21, 3) := by decide +kernel
theorem dX5_ofGarden_6 : decode cX5_ofGarden 6 = .ok (.ifCond .ne 5, 3) := by decide +kernel
theorem dX5_ofGarden_9 : decode cX5_ofGarden 9 = .ok (.iconst 0, 1) := by decide +kernel
theorem dX5_ofGarden_10 : decode cX5_ofGarden 10 = .ok (.ireturn, 1) := by decide +kernel
theorem dX5_ofGarden_11 : decode cX5_ofGarden 11 = .ok (.iconst 0, 1) := by decide +kernel
theorem dX5_ofGarden_12 : decode cX5_ofGarden 12 = .ok (.istore_n 2, 1) := by decide +kernel
theorem dX5_ofGarden_13 : decode cX5_ofGarden 13 = .ok (.iconst 0, 1) := by decide +kernel
theorem dX5_ofGarden_14 : decode cX5_ofGarden 14 = .ok (.istore_n 3, 1) := by decide +kernel
theorem dX5_ofGarden_15 : decode cX5_ofGarden 15 = .ok (.iload_n 3, 1) := by decide +kernel
theorem dX5_ofGarden_16 : decode cX5_ofGarden 16 = .ok (.bipush 25, 2) := by decide +kernel
theorem dX5_ofGarden_18 : decode cX5_ofGarden 18 = .ok (.if_icmp .ge 22, 3) := by decide +kernel
theorem dX5_ofGarden_21 : decode cX5_ofGarden 21 = .ok (.iload_n 2, 1) := by decide +kernel
theorem dX5_ofGarden_22 : decode cX5_ofGarden 22 = .ok (.aload_n 0, 1) := by decide +kernel
theorem dX5_ofGarden_23 : decode cX5_ofGarden 23 = .ok (.getfield 11, 3) := by decide +kernel
theorem dX5_ofGarden_26 : decode cX5_ofGarden 26 = .ok (.iload_n 3, 1) := by decide +kernel
theorem dX5_ofGarden_27 : decode cX5_ofGarden 27 = .ok (.iload_n 1, 1) := by decide +kernel
theorem dX5_ofGarden_28 : decode cX5_ofGarden 28 = .ok (.invokestatic 25, 3) := by decide +kernel
theorem dX5_ofGarden_31 : decode cX5_ofGarden 31 = .ok (.iaload, 1) := by decide +kernel
theorem dX5_ofGarden_32 : decode cX5_ofGarden 32 = .ok (.iadd, 1) := by decide +kernel
theorem dX5_ofGarden_33 : decode cX5_ofGarden 33 = .ok (.istore_n 2, 1) := by decide +kernel
theorem dX5_ofGarden_34 : decode cX5_ofGarden 34 = .ok (.iinc 3 1, 3) := by decide +kernel
theorem dX5_ofGarden_37 : decode cX5_ofGarden 37 = .ok (.goto (-22), 3) := by decide +kernel
theorem dX5_ofGarden_40 : decode cX5_ofGarden 40 = .ok (.iload_n 2, 1) := by decide +kernel
theorem dX5_ofGarden_41 : decode cX5_ofGarden 41 = .ok (.ireturn, 1) := by decide +kernel
theorem dX6_init_0 : decode cX6_init 0 = .ok (.aload_n 0, 1) := by decide +kernel
theorem dX6_init_1 : decode cX6_init 1 = .ok (.invokespecial 3, 3) := by decide +kernel
theorem dX6_init_4 : decode cX6_init 4 = .ok (.aload_n 0, 1) := by decide +kernel
theorem dX6_init_5 : decode cX6_init 5 = .ok (.aload_n 1, 1) := by decide +kernel
theorem dX6_init_6 : decode cX6_init 6 = .ok (.putfield 9, 3) := by decide +kernel
theorem dX6_init_9 : decode cX6_init 9 = .ok (.aload_n 0, 1) := by decide +kernel
theorem dX6_init_10 : decode cX6_init 10 = .ok (.iload_n 2, 1) := by decide +kernel
theorem dX6_init_11 : decode cX6_init 11 = .ok (.putfield 15, 3) := by decide +kernel
theorem dX6_init_14 : decode cX6_init 14 = .ok (.aload_n 0, 1) := by decide +kernel
theorem dX6_init_15 : decode cX6_init 15 = .ok (.iload_n 2, 1) := by decide +kernel
theorem dX6_init_16 : decode cX6_init 16 = .ok (.newarray .int, 2) := by decide +kernel
theorem dX6_init_18 : decode cX6_init 18 = .ok (.putfield 19, 3) := by decide +kernel
theorem dX6_init_21 : decode cX6_init 21 = .ok (.aload_n 0, 1) := by decide +kernel
theorem dX6_init_22 : decode cX6_init 22 = .ok (.iload_n 2, 1) := by decide +kernel
theorem dX6_init_23 : decode cX6_init 23 = .ok (.newarray .int, 2) := by decide +kernel
theorem dX6_init_25 : decode cX6_init 25 = .ok (.putfield 23, 3) := by decide +kernel
theorem dX6_init_28 : decode cX6_init 28 = .ok (.aload_n 0, 1) := by decide +kernel
theorem dX6_init_29 : decode cX6_init 29 = .ok (.bipush 50, 2) := by decide +kernel
theorem dX6_init_31 : decode cX6_init 31 = .ok (.putfield 26, 3) := by decide +kernel
theorem dX6_init_34 : decode cX6_init 34 = .ok (.return_, 1) := by decide +kernel
theorem dX6_isEmpty_0 : decode cX6_isEmpty 0 = .ok (.aload_n 0, 1) := by decide +kernel
theorem dX6_isEmpty_1 : decode cX6_isEmpty 1 = .ok (.getfield 29, 3) := by decide +kernel
theorem dX6_isEmpty_4 : decode cX6_isEmpty 4 = .ok (.ifCond .ne 7, 3) := by decide +kernel
theorem dX6_isEmpty_7 : decode cX6_isEmpty 7 = .ok (.iconst 1, 1) := by decide +kernel
theorem dX6_isEmpty_8 : decode cX6_isEmpty 8 = .ok (.goto 4, 3) := by decide +kernel
theorem dX6_isEmpty_11 : decode cX6_isEmpty 11 = .ok (.iconst 0, 1) := by decide +kernel
theorem dX6_isEmpty_12 : decode cX6_isEmpty 12 = .ok (.ireturn, 1) := by decide +kernel
theorem dX6_free_0 : decode cX6_free 0 = .ok (.aload_n 0, 1) := by decide +kernel
theorem dX6_free_1 : decode cX6_free 1 = .ok (.getfield 15, 3) := by decide +kernel
theorem dX6_free_4 : decode cX6_free 4 = .ok (.aload_n 0, 1) := by decide +kernel
theorem dX6_free_5 : decode cX6_free 5 = .ok (.getfield 29, 3) := by decide +kernel
theorem dX6_free_8 : decode cX6_free 8 = .ok (.isub, 1) := by decide +kernel
theorem dX6_free_9 : decode cX6_free 9 = .ok (.ireturn, 1) := by decide +kernel
theorem dX6_take_0 : decode cX6_take 0 = .ok (.iload_n 2, 1) := by decide +kernel
theorem dX6_take_1 : decode cX6_take 1 = .ok (.ifCond .le 15, 3) := by decide +kernel
theorem dX6_take_4 : decode cX6_take 4 = .ok (.aload_n 0, 1) := by decide +kernel
theorem dX6_take_5 : decode cX6_take 5 = .ok (.getfield 32, 3) := by decide +kernel
theorem dX6_take_8 : decode cX6_take 8 = .ok (.aload_n 0, 1) := by decide +kernel
theorem dX6_take_9 : decode cX6_take 9 = .ok (.getfield 19, 3) := by decide +kernel
theorem dX6_take_12 : decode cX6_take 12 = .ok (.arraylength, 1) := by decide +kernel
theorem dX6_take_13 : decode cX6_take 13 = .ok (.if_icmp .lt 4, 3) := by decide +kernel
theorem dX6_take_16 : decode cX6_take 16 = .ok (.return_, 1) := by decide +kernel
theorem dX6_take_17 : decode cX6_take 17 = .ok (.aload_n 0, 1) := by decide +kernel
theorem dX6_take_18 : decode cX6_take 18 = .ok (.getfield 19, 3) := by decide +kernel
theorem dX6_take_21 : decode cX6_take 21 = .ok (.aload_n 0, 1) := by decide +kernel
theorem dX6_take_22 : decode cX6_take 22 = .ok (.getfield 32, 3) := by decide +kernel
theorem dX6_take_25 : decode cX6_take 25 = .ok (.iload_n 1, 1) := by decide +kernel
theorem dX6_take_26 : decode cX6_take 26 = .ok (.iastore, 1) := by decide +kernel
theorem dX6_take_27 : decode cX6_take 27 = .ok (.aload_n 0, 1) := by decide +kernel
theorem dX6_take_28 : decode cX6_take 28 = .ok (.getfield 23, 3) := by decide +kernel
theorem dX6_take_31 : decode cX6_take 31 = .ok (.aload_n 0, 1) := by decide +kernel
theorem dX6_take_32 : decode cX6_take 32 = .ok (.getfield 32, 3) := by decide +kernel
theorem dX6_take_35 : decode cX6_take 35 = .ok (.iload_n 2, 1) := by decide +kernel
theorem dX6_take_36 : decode cX6_take 36 = .ok (.iastore, 1) := by decide +kernel
theorem dX6_take_37 : decode cX6_take 37 = .ok (.aload_n 0, 1) := by decide +kernel
theorem dX6_take_38 : decode cX6_take 38 = .ok (.dup, 1) := by decide +kernel
theorem dX6_take_39 : decode cX6_take 39 = .ok (.getfield 32, 3) := by decide +kernel
theorem dX6_take_42 : decode cX6_take 42 = .ok (.iconst 1, 1) := by decide +kernel
theorem dX6_take_43 : decode cX6_take 43 = .ok (.iadd, 1) := by decide +kernel
theorem dX6_take_44 : decode cX6_take 44 = .ok (.putfield 32, 3) := by decide +kernel
theorem dX6_take_47 : decode cX6_take 47 = .ok (.aload_n 0, 1) := by decide +kernel
theorem dX6_take_48 : decode cX6_take 48 = .ok (.dup, 1) := by decide +kernel
theorem dX6_take_49 : decode cX6_take 49 = .ok (.getfield 29, 3) := by decide +kernel
theorem dX6_take_52 : decode cX6_take 52 = .ok (.iload_n 2, 1) := by decide +kernel
theorem dX6_take_53 : decode cX6_take 53 = .ok (.iadd, 1) := by decide +kernel
theorem dX6_take_54 : decode cX6_take 54 = .ok (.putfield 29, 3) := by decide +kernel
theorem dX6_take_57 : decode cX6_take 57 = .ok (.return_, 1) := by decide +kernel
theorem dX6_clear_0 : decode cX6_clear 0 = .ok (.aload_n 0, 1) := by decide +kernel
theorem dX6_clear_1 : decode cX6_clear 1 = .ok (.iconst 0, 1) := by decide +kernel
theorem dX6_clear_2 : decode cX6_clear 2 = .ok (.putfield 32, 3) := by decide +kernel
theorem dX6_clear_5 : decode cX6_clear 5 = .ok (.aload_n 0, 1) := by decide +kernel
theorem dX6_clear_6 : decode cX6_clear 6 = .ok (.iconst 0, 1) := by decide +kernel
theorem dX6_clear_7 : decode cX6_clear 7 = .ok (.putfield 29, 3) := by decide +kernel
theorem dX6_clear_10 : decode cX6_clear 10 = .ok (.aload_n 0, 1) := by decide +kernel
theorem dX6_clear_11 : decode cX6_clear 11 = .ok (.iconst 0, 1) := by decide +kernel
theorem dX6_clear_12 : decode cX6_clear 12 = .ok (.putfield 35, 3) := by decide +kernel
theorem dX6_clear_15 : decode cX6_clear 15 = .ok (.return_, 1) := by decide +kernel
theorem dX6_ofGarden_0 : decode cX6_ofGarden 0 = .ok (.iconst 0, 1) := by decide +kernel
theorem dX6_ofGarden_1 : decode cX6_ofGarden 1 = .ok (.istore_n 2, 1) := by decide +kernel
theorem dX6_ofGarden_2 : decode cX6_ofGarden 2 = .ok (.iconst 0, 1) := by decide +kernel
theorem dX6_ofGarden_3 : decode cX6_ofGarden 3 = .ok (.istore_n 3, 1) := by decide +kernel
theorem dX6_ofGarden_4 : decode cX6_ofGarden 4 = .ok (.iload_n 3, 1) := by decide +kernel
theorem dX6_ofGarden_5 : decode cX6_ofGarden 5 = .ok (.aload_n 0, 1) := by decide +kernel
theorem dX6_ofGarden_6 : decode cX6_ofGarden 6 = .ok (.getfield 32, 3) := by decide +kernel
theorem dX6_ofGarden_9 : decode cX6_ofGarden 9 = .ok (.if_icmp .ge 28, 3) := by decide +kernel
theorem dX6_ofGarden_12 : decode cX6_ofGarden 12 = .ok (.aload_n 0, 1) := by decide +kernel
theorem dX6_ofGarden_13 : decode cX6_ofGarden 13 = .ok (.getfield 19, 3) := by decide +kernel
theorem dX6_ofGarden_16 : decode cX6_ofGarden 16 = .ok (.iload_n 3, 1) := by decide +kernel
theorem dX6_ofGarden_17 : decode cX6_ofGarden 17 = .ok (.iaload, 1) := by decide +kernel
theorem dX6_ofGarden_18 : decode cX6_ofGarden 18 = .ok (.iload_n 1, 1) := by decide +kernel
theorem dX6_ofGarden_19 : decode cX6_ofGarden 19 = .ok (.if_icmp .ne 12, 3) := by decide +kernel
theorem dX6_ofGarden_22 : decode cX6_ofGarden 22 = .ok (.iload_n 2, 1) := by decide +kernel
theorem dX6_ofGarden_23 : decode cX6_ofGarden 23 = .ok (.aload_n 0, 1) := by decide +kernel
theorem dX6_ofGarden_24 : decode cX6_ofGarden 24 = .ok (.getfield 23, 3) := by decide +kernel
theorem dX6_ofGarden_27 : decode cX6_ofGarden 27 = .ok (.iload_n 3, 1) := by decide +kernel
theorem dX6_ofGarden_28 : decode cX6_ofGarden 28 = .ok (.iaload, 1) := by decide +kernel
theorem dX6_ofGarden_29 : decode cX6_ofGarden 29 = .ok (.iadd, 1) := by decide +kernel
theorem dX6_ofGarden_30 : decode cX6_ofGarden 30 = .ok (.istore_n 2, 1) := by decide +kernel
theorem dX6_ofGarden_31 : decode cX6_ofGarden 31 = .ok (.iinc 3 1, 3) := by decide +kernel
theorem dX6_ofGarden_34 : decode cX6_ofGarden 34 = .ok (.goto (-30), 3) := by decide +kernel
theorem dX6_ofGarden_37 : decode cX6_ofGarden 37 = .ok (.iload_n 2, 1) := by decide +kernel
theorem dX6_ofGarden_38 : decode cX6_ofGarden 38 = .ok (.ireturn, 1) := by decide +kernel
theorem dX6_gardenBits_0 : decode cX6_gardenBits 0 = .ok (.iconst 0, 1) := by decide +kernel
theorem dX6_gardenBits_1 : decode cX6_gardenBits 1 = .ok (.istore_n 1, 1) := by decide +kernel
theorem dX6_gardenBits_2 : decode cX6_gardenBits 2 = .ok (.iconst 0, 1) := by decide +kernel
theorem dX6_gardenBits_3 : decode cX6_gardenBits 3 = .ok (.istore_n 2, 1) := by decide +kernel
theorem dX6_gardenBits_4 : decode cX6_gardenBits 4 = .ok (.iload_n 2, 1) := by decide +kernel
theorem dX6_gardenBits_5 : decode cX6_gardenBits 5 = .ok (.aload_n 0, 1) := by decide +kernel
theorem dX6_gardenBits_6 : decode cX6_gardenBits 6 = .ok (.getfield 32, 3) := by decide +kernel
theorem dX6_gardenBits_9 : decode cX6_gardenBits 9 = .ok (.if_icmp .ge 20, 3) := by decide +kernel
theorem dX6_gardenBits_12 : decode cX6_gardenBits 12 = .ok (.iload_n 1, 1) := by decide +kernel
theorem dX6_gardenBits_13 : decode cX6_gardenBits 13 = .ok (.iconst 1, 1) := by decide +kernel
theorem dX6_gardenBits_14 : decode cX6_gardenBits 14 = .ok (.aload_n 0, 1) := by decide +kernel
theorem dX6_gardenBits_15 : decode cX6_gardenBits 15 = .ok (.getfield 19, 3) := by decide +kernel
theorem dX6_gardenBits_18 : decode cX6_gardenBits 18 = .ok (.iload_n 2, 1) := by decide +kernel
theorem dX6_gardenBits_19 : decode cX6_gardenBits 19 = .ok (.iaload, 1) := by decide +kernel
theorem dX6_gardenBits_20 : decode cX6_gardenBits 20 = .ok (.ishl, 1) := by decide +kernel
theorem dX6_gardenBits_21 : decode cX6_gardenBits 21 = .ok (.ior, 1) := by decide +kernel
theorem dX6_gardenBits_22 : decode cX6_gardenBits 22 = .ok (.istore_n 1, 1) := by decide +kernel
theorem dX6_gardenBits_23 : decode cX6_gardenBits 23 = .ok (.iinc 2 1, 3) := by decide +kernel
theorem dX6_gardenBits_26 : decode cX6_gardenBits 26 = .ok (.goto (-22), 3) := by decide +kernel
theorem dX6_gardenBits_29 : decode cX6_gardenBits 29 = .ok (.iload_n 1, 1) := by decide +kernel
theorem dX6_gardenBits_30 : decode cX6_gardenBits 30 = .ok (.ireturn, 1) := by decide +kernel
theorem dX6_bears_0 : decode cX6_bears 0 = .ok (.aload_n 0, 1) := by decide +kernel
theorem dX6_bears_1 : decode cX6_bears 1 = .ok (.getfield 9, 3) := by decide +kernel
theorem dX6_bears_4 : decode cX6_bears 4 = .ok (.aload_n 0, 1) := by decide +kernel
theorem dX6_bears_5 : decode cX6_bears 5 = .ok (.getfield 26, 3) := by decide +kernel
theorem dX6_bears_8 : decode cX6_bears 8 = .ok (.invokevirtual 38, 3) := by decide +kernel
theorem dX6_bears_11 : decode cX6_bears 11 = .ok (.istore_n 1, 1) := by decide +kernel
theorem dX6_bears_12 : decode cX6_bears 12 = .ok (.iload_n 1, 1) := by decide +kernel
theorem dX6_bears_13 : decode cX6_bears 13 = .ok (.ifCond .gt 5, 3) := by decide +kernel
theorem dX6_bears_16 : decode cX6_bears 16 = .ok (.iconst 0, 1) := by decide +kernel
theorem dX6_bears_17 : decode cX6_bears 17 = .ok (.ireturn, 1) := by decide +kernel
theorem dX6_bears_18 : decode cX6_bears 18 = .ok (.bipush 60, 2) := by decide +kernel
theorem dX6_bears_20 : decode cX6_bears 20 = .ok (.iload_n 1, 1) := by decide +kernel
theorem dX6_bears_21 : decode cX6_bears 21 = .ok (.iadd, 1) := by decide +kernel
theorem dX6_bears_22 : decode cX6_bears 22 = .ok (.iconst 1, 1) := by decide +kernel
theorem dX6_bears_23 : decode cX6_bears 23 = .ok (.isub, 1) := by decide +kernel
theorem dX6_bears_24 : decode cX6_bears 24 = .ok (.iload_n 1, 1) := by decide +kernel
theorem dX6_bears_25 : decode cX6_bears 25 = .ok (.idiv, 1) := by decide +kernel
theorem dX6_bears_26 : decode cX6_bears 26 = .ok (.istore_n 2, 1) := by decide +kernel
theorem dX6_bears_27 : decode cX6_bears 27 = .ok (.aload_n 0, 1) := by decide +kernel
theorem dX6_bears_28 : decode cX6_bears 28 = .ok (.getfield 15, 3) := by decide +kernel
theorem dX6_bears_31 : decode cX6_bears 31 = .ok (.iload_n 2, 1) := by decide +kernel
theorem dX6_bears_32 : decode cX6_bears 32 = .ok (.iconst 1, 1) := by decide +kernel
theorem dX6_bears_33 : decode cX6_bears 33 = .ok (.invokestatic 44, 3) := by decide +kernel
theorem dX6_bears_36 : decode cX6_bears 36 = .ok (.idiv, 1) := by decide +kernel
theorem dX6_bears_37 : decode cX6_bears 37 = .ok (.ireturn, 1) := by decide +kernel
theorem dX7_init_0 : decode cX7_init 0 = .ok (.aload_n 0, 1) := by decide +kernel
theorem dX7_init_1 : decode cX7_init 1 = .ok (.invokespecial 3, 3) := by decide +kernel
theorem dX7_init_4 : decode cX7_init 4 = .ok (.aload_n 0, 1) := by decide +kernel
theorem dX7_init_5 : decode cX7_init 5 = .ok (.iload_n 1, 1) := by decide +kernel
theorem dX7_init_6 : decode cX7_init 6 = .ok (.putfield 9, 3) := by decide +kernel
theorem dX7_init_9 : decode cX7_init 9 = .ok (.aload_n 0, 1) := by decide +kernel
theorem dX7_init_10 : decode cX7_init 10 = .ok (.bipush 20, 2) := by decide +kernel
theorem dX7_init_12 : decode cX7_init 12 = .ok (.newarray .int, 2) := by decide +kernel
theorem dX7_init_14 : decode cX7_init 14 = .ok (.putfield 15, 3) := by decide +kernel
theorem dX7_init_17 : decode cX7_init 17 = .ok (.aload_n 0, 1) := by decide +kernel
theorem dX7_init_18 : decode cX7_init 18 = .ok (.bipush 20, 2) := by decide +kernel
theorem dX7_init_20 : decode cX7_init 20 = .ok (.newarray .int, 2) := by decide +kernel
theorem dX7_init_22 : decode cX7_init 22 = .ok (.putfield 19, 3) := by decide +kernel
theorem dX7_init_25 : decode cX7_init 25 = .ok (.return_, 1) := by decide +kernel
theorem dX7_tell_0 : decode cX7_tell 0 = .ok (.aload_n 0, 1) := by decide +kernel
theorem dX7_tell_1 : decode cX7_tell 1 = .ok (.getfield 22, 3) := by decide +kernel
theorem dX7_tell_4 : decode cX7_tell 4 = .ok (.bipush 20, 2) := by decide +kernel
theorem dX7_tell_6 : decode cX7_tell 6 = .ok (.if_icmp .lt 5, 3) := by decide +kernel
theorem dX7_tell_9 : decode cX7_tell 9 = .ok (.iconst 0, 1) := by decide +kernel
theorem dX7_tell_10 : decode cX7_tell 10 = .ok (.ireturn, 1) := by decide +kernel
theorem dX7_tell_11 : decode cX7_tell 11 = .ok (.aload_n 0, 1) := by decide +kernel
theorem dX7_tell_12 : decode cX7_tell 12 = .ok (.getfield 15, 3) := by decide +kernel
theorem dX7_tell_15 : decode cX7_tell 15 = .ok (.aload_n 0, 1) := by decide +kernel
theorem dX7_tell_16 : decode cX7_tell 16 = .ok (.getfield 22, 3) := by decide +kernel
theorem dX7_tell_19 : decode cX7_tell 19 = .ok (.iload_n 1, 1) := by decide +kernel
theorem dX7_tell_20 : decode cX7_tell 20 = .ok (.iastore, 1) := by decide +kernel
theorem dX7_tell_21 : decode cX7_tell 21 = .ok (.aload_n 0, 1) := by decide +kernel
theorem dX7_tell_22 : decode cX7_tell 22 = .ok (.getfield 19, 3) := by decide +kernel
theorem dX7_tell_25 : decode cX7_tell 25 = .ok (.aload_n 0, 1) := by decide +kernel
theorem dX7_tell_26 : decode cX7_tell 26 = .ok (.getfield 22, 3) := by decide +kernel
theorem dX7_tell_29 : decode cX7_tell 29 = .ok (.iload_n 2, 1) := by decide +kernel
theorem dX7_tell_30 : decode cX7_tell 30 = .ok (.iastore, 1) := by decide +kernel
theorem dX7_tell_31 : decode cX7_tell 31 = .ok (.aload_n 0, 1) := by decide +kernel
theorem dX7_tell_32 : decode cX7_tell 32 = .ok (.dup, 1) := by decide +kernel
theorem dX7_tell_33 : decode cX7_tell 33 = .ok (.getfield 22, 3) := by decide +kernel
theorem dX7_tell_36 : decode cX7_tell 36 = .ok (.iconst 1, 1) := by decide +kernel
theorem dX7_tell_37 : decode cX7_tell 37 = .ok (.iadd, 1) := by decide +kernel
theorem dX7_tell_38 : decode cX7_tell 38 = .ok (.putfield 22, 3) := by decide +kernel
theorem dX7_tell_41 : decode cX7_tell 41 = .ok (.iconst 1, 1) := by decide +kernel
theorem dX7_tell_42 : decode cX7_tell 42 = .ok (.ireturn, 1) := by decide +kernel
theorem dX7_inForce_0 : decode cX7_inForce 0 = .ok (.iconst (-1), 1) := by decide +kernel
theorem dX7_inForce_1 : decode cX7_inForce 1 = .ok (.istore_n 2, 1) := by decide +kernel
theorem dX7_inForce_2 : decode cX7_inForce 2 = .ok (.aload_n 0, 1) := by decide +kernel
theorem dX7_inForce_3 : decode cX7_inForce 3 = .ok (.getfield 9, 3) := by decide +kernel
theorem dX7_inForce_6 : decode cX7_inForce 6 = .ok (.istore_n 3, 1) := by decide +kernel
theorem dX7_inForce_7 : decode cX7_inForce 7 = .ok (.iconst 0, 1) := by decide +kernel
theorem dX7_inForce_8 : decode cX7_inForce 8 = .ok (.istore 4, 2) := by decide +kernel
theorem dX7_inForce_10 : decode cX7_inForce 10 = .ok (.iload 4, 2) := by decide +kernel
theorem dX7_inForce_12 : decode cX7_inForce 12 = .ok (.aload_n 0, 1) := by decide +kernel
theorem dX7_inForce_13 : decode cX7_inForce 13 = .ok (.getfield 22, 3) := by decide +kernel
theorem dX7_inForce_16 : decode cX7_inForce 16 = .ok (.if_icmp .ge 47, 3) := by decide +kernel
theorem dX7_inForce_19 : decode cX7_inForce 19 = .ok (.aload_n 0, 1) := by decide +kernel
theorem dX7_inForce_20 : decode cX7_inForce 20 = .ok (.getfield 15, 3) := by decide +kernel
theorem dX7_inForce_23 : decode cX7_inForce 23 = .ok (.iload 4, 2) := by decide +kernel
theorem dX7_inForce_25 : decode cX7_inForce 25 = .ok (.iaload, 1) := by decide +kernel
theorem dX7_inForce_26 : decode cX7_inForce 26 = .ok (.iload_n 1, 1) := by decide +kernel
theorem dX7_inForce_27 : decode cX7_inForce 27 = .ok (.if_icmp .gt 30, 3) := by decide +kernel
theorem dX7_inForce_30 : decode cX7_inForce 30 = .ok (.aload_n 0, 1) := by decide +kernel
theorem dX7_inForce_31 : decode cX7_inForce 31 = .ok (.getfield 15, 3) := by decide +kernel
theorem dX7_inForce_34 : decode cX7_inForce 34 = .ok (.iload 4, 2) := by decide +kernel
theorem dX7_inForce_36 : decode cX7_inForce 36 = .ok (.iaload, 1) := by decide +kernel
theorem dX7_inForce_37 : decode cX7_inForce 37 = .ok (.iload_n 2, 1) := by decide +kernel
theorem dX7_inForce_38 : decode cX7_inForce 38 = .ok (.if_icmp .lt 19, 3) := by decide +kernel
theorem dX7_inForce_41 : decode cX7_inForce 41 = .ok (.aload_n 0, 1) := by decide +kernel
theorem dX7_inForce_42 : decode cX7_inForce 42 = .ok (.getfield 15, 3) := by decide +kernel
theorem dX7_inForce_45 : decode cX7_inForce 45 = .ok (.iload 4, 2) := by decide +kernel
theorem dX7_inForce_47 : decode cX7_inForce 47 = .ok (.iaload, 1) := by decide +kernel
theorem dX7_inForce_48 : decode cX7_inForce 48 = .ok (.istore_n 2, 1) := by decide +kernel
theorem dX7_inForce_49 : decode cX7_inForce 49 = .ok (.aload_n 0, 1) := by decide +kernel
theorem dX7_inForce_50 : decode cX7_inForce 50 = .ok (.getfield 19, 3) := by decide +kernel
theorem dX7_inForce_53 : decode cX7_inForce 53 = .ok (.iload 4, 2) := by decide +kernel
theorem dX7_inForce_55 : decode cX7_inForce 55 = .ok (.iaload, 1) := by decide +kernel
theorem dX7_inForce_56 : decode cX7_inForce 56 = .ok (.istore_n 3, 1) := by decide +kernel
theorem dX7_inForce_57 : decode cX7_inForce 57 = .ok (.iinc 4 1, 3) := by decide +kernel
theorem dX7_inForce_60 : decode cX7_inForce 60 = .ok (.goto (-50), 3) := by decide +kernel
theorem dX7_inForce_63 : decode cX7_inForce 63 = .ok (.iload_n 3, 1) := by decide +kernel
theorem dX7_inForce_64 : decode cX7_inForce 64 = .ok (.ireturn, 1) := by decide +kernel
theorem dX8_init_0 : decode cX8_init 0 = .ok (.aload_n 0, 1) := by decide +kernel
theorem dX8_init_1 : decode cX8_init 1 = .ok (.invokespecial 1, 3) := by decide +kernel
theorem dX8_init_4 : decode cX8_init 4 = .ok (.return_, 1) := by decide +kernel
theorem dX8_dries_0 : decode cX8_dries 0 = .ok (.iload_n 1, 1) := by decide +kernel
theorem dX8_dries_1 : decode cX8_dries 1 = .ok (.iconst 5, 1) := by decide +kernel
theorem dX8_dries_2 : decode cX8_dries 2 = .ok (.idiv, 1) := by decide +kernel
theorem dX8_dries_3 : decode cX8_dries 3 = .ok (.ireturn, 1) := by decide +kernel
theorem dX8_marks_0 : decode cX8_marks 0 = .ok (.iconst 1, 1) := by decide +kernel
theorem dX8_marks_1 : decode cX8_marks 1 = .ok (.ireturn, 1) := by decide +kernel
theorem dX9_init_0 : decode cX9_init 0 = .ok (.aload_n 0, 1) := by decide +kernel
theorem dX9_init_1 : decode cX9_init 1 = .ok (.invokespecial 3, 3) := by decide +kernel
theorem dX9_init_4 : decode cX9_init 4 = .ok (.aload_n 0, 1) := by decide +kernel
theorem dX9_init_5 : decode cX9_init 5 = .ok (.bipush 100, 2) := by decide +kernel
theorem dX9_init_7 : decode cX9_init 7 = .ok (.newarray .int, 2) := by decide +kernel
theorem dX9_init_9 : decode cX9_init 9 = .ok (.putfield 9, 3) := by decide +kernel
theorem dX9_init_12 : decode cX9_init 12 = .ok (.aload_n 0, 1) := by decide +kernel
theorem dX9_init_13 : decode cX9_init 13 = .ok (.bipush 100, 2) := by decide +kernel
theorem dX9_init_15 : decode cX9_init 15 = .ok (.newarray .int, 2) := by decide +kernel
theorem dX9_init_17 : decode cX9_init 17 = .ok (.putfield 15, 3) := by decide +kernel
theorem dX9_init_20 : decode cX9_init 20 = .ok (.return_, 1) := by decide +kernel
theorem dX9_led_0 : decode cX9_led 0 = .ok (.aload_n 0, 1) := by decide +kernel
theorem dX9_led_1 : decode cX9_led 1 = .ok (.getfield 18, 3) := by decide +kernel
theorem dX9_led_4 : decode cX9_led 4 = .ok (.bipush 100, 2) := by decide +kernel
theorem dX9_led_6 : decode cX9_led 6 = .ok (.invokestatic 22, 3) := by decide +kernel
theorem dX9_led_9 : decode cX9_led 9 = .ok (.ireturn, 1) := by decide +kernel
theorem dX9_lay_0 : decode cX9_lay 0 = .ok (.iload_n 2, 1) := by decide +kernel
theorem dX9_lay_1 : decode cX9_lay 1 = .ok (.ifCond .gt 4, 3) := by decide +kernel
theorem dX9_lay_4 : decode cX9_lay 4 = .ok (.return_, 1) := by decide +kernel
theorem dX9_lay_5 : decode cX9_lay 5 = .ok (.aload_n 0, 1) := by decide +kernel
theorem dX9_lay_6 : decode cX9_lay 6 = .ok (.dup, 1) := by decide +kernel
theorem dX9_lay_7 : decode cX9_lay 7 = .ok (.getfield 28, 3) := by decide +kernel
theorem dX9_lay_10 : decode cX9_lay 10 = .ok (.iconst 1, 1) := by decide +kernel
theorem dX9_lay_11 : decode cX9_lay 11 = .ok (.iload_n 1, 1) := by decide +kernel
theorem dX9_lay_12 : decode cX9_lay 12 = .ok (.ishl, 1) := by decide +kernel
theorem dX9_lay_13 : decode cX9_lay 13 = .ok (.ior, 1) := by decide +kernel
theorem dX9_lay_14 : decode cX9_lay 14 = .ok (.putfield 28, 3) := by decide +kernel
theorem dX9_lay_17 : decode cX9_lay 17 = .ok (.aload_n 0, 1) := by decide +kernel
theorem dX9_lay_18 : decode cX9_lay 18 = .ok (.dup, 1) := by decide +kernel
theorem dX9_lay_19 : decode cX9_lay 19 = .ok (.getfield 31, 3) := by decide +kernel
theorem dX9_lay_22 : decode cX9_lay 22 = .ok (.iload_n 2, 1) := by decide +kernel
theorem dX9_lay_23 : decode cX9_lay 23 = .ok (.iadd, 1) := by decide +kernel
theorem dX9_lay_24 : decode cX9_lay 24 = .ok (.putfield 31, 3) := by decide +kernel
theorem dX9_lay_27 : decode cX9_lay 27 = .ok (.aload_n 0, 1) := by decide +kernel
theorem dX9_lay_28 : decode cX9_lay 28 = .ok (.getfield 31, 3) := by decide +kernel
theorem dX9_lay_31 : decode cX9_lay 31 = .ok (.bipush 20, 2) := by decide +kernel
theorem dX9_lay_33 : decode cX9_lay 33 = .ok (.if_icmp .lt 29, 3) := by decide +kernel
theorem dX9_lay_36 : decode cX9_lay 36 = .ok (.aload_n 0, 1) := by decide +kernel
theorem dX9_lay_37 : decode cX9_lay 37 = .ok (.iload_n 3, 1) := by decide +kernel
theorem dX9_lay_38 : decode cX9_lay 38 = .ok (.invokevirtual 34, 3) := by decide +kernel
theorem dX9_lay_41 : decode cX9_lay 41 = .ok (.aload_n 0, 1) := by decide +kernel
theorem dX9_lay_42 : decode cX9_lay 42 = .ok (.iconst 1, 1) := by decide +kernel
theorem dX9_lay_43 : decode cX9_lay 43 = .ok (.iload_n 1, 1) := by decide +kernel
theorem dX9_lay_44 : decode cX9_lay 44 = .ok (.ishl, 1) := by decide +kernel
theorem dX9_lay_45 : decode cX9_lay 45 = .ok (.putfield 28, 3) := by decide +kernel
theorem dX9_lay_48 : decode cX9_lay 48 = .ok (.aload_n 0, 1) := by decide +kernel
theorem dX9_lay_49 : decode cX9_lay 49 = .ok (.dup, 1) := by decide +kernel
theorem dX9_lay_50 : decode cX9_lay 50 = .ok (.getfield 31, 3) := by decide +kernel
theorem dX9_lay_53 : decode cX9_lay 53 = .ok (.bipush 20, 2) := by decide +kernel
theorem dX9_lay_55 : decode cX9_lay 55 = .ok (.isub, 1) := by decide +kernel
theorem dX9_lay_56 : decode cX9_lay 56 = .ok (.putfield 31, 3) := by decide +kernel
theorem dX9_lay_59 : decode cX9_lay 59 = .ok (.goto (-32), 3) := by decide +kernel
theorem dX9_lay_62 : decode cX9_lay 62 = .ok (.aload_n 0, 1) := by decide +kernel
theorem dX9_lay_63 : decode cX9_lay 63 = .ok (.getfield 31, 3) := by decide +kernel
theorem dX9_lay_66 : decode cX9_lay 66 = .ok (.ifCond .ne 8, 3) := by decide +kernel
theorem dX9_lay_69 : decode cX9_lay 69 = .ok (.aload_n 0, 1) := by decide +kernel
theorem dX9_lay_70 : decode cX9_lay 70 = .ok (.iconst 0, 1) := by decide +kernel
theorem dX9_lay_71 : decode cX9_lay 71 = .ok (.putfield 28, 3) := by decide +kernel
theorem dX9_lay_74 : decode cX9_lay 74 = .ok (.return_, 1) := by decide +kernel
theorem dX9_pressOne_0 : decode cX9_pressOne 0 = .ok (.aload_n 0, 1) := by decide +kernel
theorem dX9_pressOne_1 : decode cX9_pressOne 1 = .ok (.getfield 18, 3) := by decide +kernel
theorem dX9_pressOne_4 : decode cX9_pressOne 4 = .ok (.bipush 100, 2) := by decide +kernel
theorem dX9_pressOne_6 : decode cX9_pressOne 6 = .ok (.if_icmp .ge 26, 3) := by decide +kernel
theorem dX9_pressOne_9 : decode cX9_pressOne 9 = .ok (.aload_n 0, 1) := by decide +kernel
theorem dX9_pressOne_10 : decode cX9_pressOne 10 = .ok (.getfield 9, 3) := by decide +kernel
theorem dX9_pressOne_13 : decode cX9_pressOne 13 = .ok (.aload_n 0, 1) := by decide +kernel
theorem dX9_pressOne_14 : decode cX9_pressOne 14 = .ok (.getfield 18, 3) := by decide +kernel
theorem dX9_pressOne_17 : decode cX9_pressOne 17 = .ok (.aload_n 0, 1) := by decide +kernel
theorem dX9_pressOne_18 : decode cX9_pressOne 18 = .ok (.getfield 28, 3) := by decide +kernel
theorem dX9_pressOne_21 : decode cX9_pressOne 21 = .ok (.iastore, 1) := by decide +kernel
theorem dX9_pressOne_22 : decode cX9_pressOne 22 = .ok (.aload_n 0, 1) := by decide +kernel
theorem dX9_pressOne_23 : decode cX9_pressOne 23 = .ok (.getfield 15, 3) := by decide +kernel
theorem dX9_pressOne_26 : decode cX9_pressOne 26 = .ok (.aload_n 0, 1) := by decide +kernel
theorem dX9_pressOne_27 : decode cX9_pressOne 27 = .ok (.getfield 18, 3) := by decide +kernel
theorem dX9_pressOne_30 : decode cX9_pressOne 30 = .ok (.iload_n 1, 1) := by decide +kernel
theorem dX9_pressOne_31 : decode cX9_pressOne 31 = .ok (.iastore, 1) := by decide +kernel
theorem dX9_pressOne_32 : decode cX9_pressOne 32 = .ok (.aload_n 0, 1) := by decide +kernel
theorem dX9_pressOne_33 : decode cX9_pressOne 33 = .ok (.dup, 1) := by decide +kernel
theorem dX9_pressOne_34 : decode cX9_pressOne 34 = .ok (.getfield 18, 3) := by decide +kernel
theorem dX9_pressOne_37 : decode cX9_pressOne 37 = .ok (.iconst 1, 1) := by decide +kernel
theorem dX9_pressOne_38 : decode cX9_pressOne 38 = .ok (.iadd, 1) := by decide +kernel
theorem dX9_pressOne_39 : decode cX9_pressOne 39 = .ok (.putfield 18, 3) := by decide +kernel
theorem dX9_pressOne_42 : decode cX9_pressOne 42 = .ok (.return_, 1) := by decide +kernel
theorem dJ9_floorMod_7cf53_0 : decode cJ9_floorMod_7cf53 0 = .ok (.iload_n 0, 1) := by decide +kernel
theorem dJ9_floorMod_7cf53_1 : decode cJ9_floorMod_7cf53 1 = .ok (.iload_n 1, 1) := by decide +kernel
theorem dJ9_floorMod_7cf53_2 : decode cJ9_floorMod_7cf53 2 = .ok (.irem, 1) := by decide +kernel
theorem dJ9_floorMod_7cf53_3 : decode cJ9_floorMod_7cf53 3 = .ok (.istore_n 2, 1) := by decide +kernel
theorem dJ9_floorMod_7cf53_4 : decode cJ9_floorMod_7cf53 4 = .ok (.iload_n 0, 1) := by decide +kernel
theorem dJ9_floorMod_7cf53_5 : decode cJ9_floorMod_7cf53 5 = .ok (.iload_n 1, 1) := by decide +kernel
theorem dJ9_floorMod_7cf53_6 : decode cJ9_floorMod_7cf53 6 = .ok (.ixor, 1) := by decide +kernel
theorem dJ9_floorMod_7cf53_7 : decode cJ9_floorMod_7cf53 7 = .ok (.ifCond .ge 11, 3) := by decide +kernel
theorem dJ9_floorMod_7cf53_10 : decode cJ9_floorMod_7cf53 10 = .ok (.iload_n 2, 1) := by decide +kernel
theorem dJ9_floorMod_7cf53_11 : decode cJ9_floorMod_7cf53 11 = .ok (.ifCond .eq 7, 3) := by decide +kernel
theorem dJ9_floorMod_7cf53_14 : decode cJ9_floorMod_7cf53 14 = .ok (.iload_n 2, 1) := by decide +kernel
theorem dJ9_floorMod_7cf53_15 : decode cJ9_floorMod_7cf53 15 = .ok (.iload_n 1, 1) := by decide +kernel
theorem dJ9_floorMod_7cf53_16 : decode cJ9_floorMod_7cf53 16 = .ok (.iadd, 1) := by decide +kernel
theorem dJ9_floorMod_7cf53_17 : decode cJ9_floorMod_7cf53 17 = .ok (.ireturn, 1) := by decide +kernel
theorem dJ9_floorMod_7cf53_18 : decode cJ9_floorMod_7cf53 18 = .ok (.iload_n 2, 1) := by decide +kernel
theorem dJ9_floorMod_7cf53_19 : decode cJ9_floorMod_7cf53 19 = .ok (.ireturn, 1) := by decide +kernel
theorem dJ9_max_7cf53_0 : decode cJ9_max_7cf53 0 = .ok (.iload_n 0, 1) := by decide +kernel
theorem dJ9_max_7cf53_1 : decode cJ9_max_7cf53 1 = .ok (.iload_n 1, 1) := by decide +kernel
theorem dJ9_max_7cf53_2 : decode cJ9_max_7cf53 2 = .ok (.if_icmp .lt 7, 3) := by decide +kernel
theorem dJ9_max_7cf53_5 : decode cJ9_max_7cf53 5 = .ok (.iload_n 0, 1) := by decide +kernel
theorem dJ9_max_7cf53_6 : decode cJ9_max_7cf53 6 = .ok (.goto 4, 3) := by decide +kernel
theorem dJ9_max_7cf53_9 : decode cJ9_max_7cf53 9 = .ok (.iload_n 1, 1) := by decide +kernel
theorem dJ9_max_7cf53_10 : decode cJ9_max_7cf53 10 = .ok (.ireturn, 1) := by decide +kernel
theorem dJ9_min_7cf53_0 : decode cJ9_min_7cf53 0 = .ok (.iload_n 0, 1) := by decide +kernel
theorem dJ9_min_7cf53_1 : decode cJ9_min_7cf53 1 = .ok (.iload_n 1, 1) := by decide +kernel
theorem dJ9_min_7cf53_2 : decode cJ9_min_7cf53 2 = .ok (.if_icmp .gt 7, 3) := by decide +kernel
theorem dJ9_min_7cf53_5 : decode cJ9_min_7cf53 5 = .ok (.iload_n 0, 1) := by decide +kernel
theorem dJ9_min_7cf53_6 : decode cJ9_min_7cf53 6 = .ok (.goto 4, 3) := by decide +kernel
theorem dJ9_min_7cf53_9 : decode cJ9_min_7cf53 9 = .ok (.iload_n 1, 1) := by decide +kernel
theorem dJ9_min_7cf53_10 : decode cJ9_min_7cf53 10 = .ok (.ireturn, 1) := by decide +kernel
theorem dJxa1e45_init_da8c8_0 : decode cJxa1e45_init_da8c8 0 = .ok (.aload_n 0, 1) := by decide +kernel
theorem dJxa1e45_init_da8c8_1 : decode cJxa1e45_init_da8c8 1 = .ok (.invokespecial 1, 3) := by decide +kernel
theorem dJxa1e45_init_da8c8_4 : decode cJxa1e45_init_da8c8 4 = .ok (.return_, 1) := by decide +kernel
theorem dJxc12de_init_da8c8_0 : decode cJxc12de_init_da8c8 0 = .ok (.aload_n 0, 1) := by decide +kernel
theorem dJxc12de_init_da8c8_1 : decode cJxc12de_init_da8c8 1 = .ok (.invokespecial 1, 3) := by decide +kernel
theorem dJxc12de_init_da8c8_4 : decode cJxc12de_init_da8c8 4 = .ok (.aload_n 0, 1) := by decide +kernel
theorem dJxc12de_init_da8c8_5 : decode cJxc12de_init_da8c8 5 = .ok (.iconst 0, 1) := by decide +kernel
theorem dJxc12de_init_da8c8_6 : decode cJxc12de_init_da8c8 6 = .ok (.putfield 7, 3) := by decide +kernel
theorem dJxc12de_init_da8c8_9 : decode cJxc12de_init_da8c8 9 = .ok (.return_, 1) := by decide +kernel
theorem dJx4a65c_init_da8c8_0 : decode cJx4a65c_init_da8c8 0 = .ok (.aload_n 0, 1) := by decide +kernel
theorem dJx4a65c_init_da8c8_1 : decode cJx4a65c_init_da8c8 1 = .ok (.invokespecial 1, 3) := by decide +kernel
theorem dJx4a65c_init_da8c8_4 : decode cJx4a65c_init_da8c8 4 = .ok (.aload_n 0, 1) := by decide +kernel
theorem dJx4a65c_init_da8c8_5 : decode cJx4a65c_init_da8c8 5 = .ok (.getstatic 39, 3) := by decide +kernel
theorem dJx4a65c_init_da8c8_8 : decode cJx4a65c_init_da8c8 8 = .ok (.putfield 9, 3) := by decide +kernel
theorem dJx4a65c_init_da8c8_11 : decode cJx4a65c_init_da8c8 11 = .ok (.return_, 1) := by decide +kernel
theorem dJx4a65c_grow_92f84_0 : decode cJx4a65c_grow_92f84 0 = .ok (.aload_n 0, 1) := by decide +kernel
theorem dJx4a65c_grow_92f84_1 : decode cJx4a65c_grow_92f84 1 = .ok (.getfield 9, 3) := by decide +kernel
theorem dJx4a65c_grow_92f84_4 : decode cJx4a65c_grow_92f84 4 = .ok (.arraylength, 1) := by decide +kernel
theorem dJx4a65c_grow_92f84_5 : decode cJx4a65c_grow_92f84 5 = .ok (.istore_n 2, 1) := by decide +kernel
theorem dJx4a65c_grow_92f84_6 : decode cJx4a65c_grow_92f84 6 = .ok (.iload_n 2, 1) := by decide +kernel
theorem dJx4a65c_grow_92f84_7 : decode cJx4a65c_grow_92f84 7 = .ok (.ifCond .gt 13, 3) := by decide +kernel
theorem dJx4a65c_grow_92f84_10 : decode cJx4a65c_grow_92f84 10 = .ok (.aload_n 0, 1) := by decide +kernel
theorem dJx4a65c_grow_92f84_11 : decode cJx4a65c_grow_92f84 11 = .ok (.getfield 9, 3) := by decide +kernel
theorem dJx4a65c_grow_92f84_14 : decode cJx4a65c_grow_92f84 14 = .ok (.getstatic 39, 3) := by decide +kernel
theorem dJx4a65c_grow_92f84_17 : decode cJx4a65c_grow_92f84 17 = .ok (.if_acmp .eq 28, 3) := by decide +kernel
theorem dJx4a65c_grow_92f84_20 : decode cJx4a65c_grow_92f84 20 = .ok (.iload_n 2, 1) := by decide +kernel
theorem dJx4a65c_grow_92f84_21 : decode cJx4a65c_grow_92f84 21 = .ok (.iload_n 1, 1) := by decide +kernel
theorem dJx4a65c_grow_92f84_22 : decode cJx4a65c_grow_92f84 22 = .ok (.iload_n 2, 1) := by decide +kernel
theorem dJx4a65c_grow_92f84_23 : decode cJx4a65c_grow_92f84 23 = .ok (.isub, 1) := by decide +kernel
theorem dJx4a65c_grow_92f84_24 : decode cJx4a65c_grow_92f84 24 = .ok (.iload_n 2, 1) := by decide +kernel
theorem dJx4a65c_grow_92f84_25 : decode cJx4a65c_grow_92f84 25 = .ok (.iconst 1, 1) := by decide +kernel
theorem dJx4a65c_grow_92f84_26 : decode cJx4a65c_grow_92f84 26 = .ok (.ishr, 1) := by decide +kernel
theorem dJx4a65c_grow_92f84_27 : decode cJx4a65c_grow_92f84 27 = .ok (.invokestatic 73, 3) := by decide +kernel
theorem dJx4a65c_grow_92f84_30 : decode cJx4a65c_grow_92f84 30 = .ok (.istore_n 3, 1) := by decide +kernel
theorem dJx4a65c_grow_92f84_31 : decode cJx4a65c_grow_92f84 31 = .ok (.aload_n 0, 1) := by decide +kernel
theorem dJx4a65c_grow_92f84_32 : decode cJx4a65c_grow_92f84 32 = .ok (.aload_n 0, 1) := by decide +kernel
theorem dJx4a65c_grow_92f84_33 : decode cJx4a65c_grow_92f84 33 = .ok (.getfield 9, 3) := by decide +kernel
theorem dJx4a65c_grow_92f84_36 : decode cJx4a65c_grow_92f84 36 = .ok (.iload_n 3, 1) := by decide +kernel
theorem dJx4a65c_grow_92f84_37 : decode cJx4a65c_grow_92f84 37 = .ok (.invokestatic 66, 3) := by decide +kernel
theorem dJx4a65c_grow_92f84_40 : decode cJx4a65c_grow_92f84 40 = .ok (.dup_x1, 1) := by decide +kernel
theorem dJx4a65c_grow_92f84_41 : decode cJx4a65c_grow_92f84 41 = .ok (.putfield 9, 3) := by decide +kernel
theorem dJx4a65c_grow_92f84_44 : decode cJx4a65c_grow_92f84 44 = .ok (.areturn, 1) := by decide +kernel
theorem dJx4a65c_grow_92f84_45 : decode cJx4a65c_grow_92f84 45 = .ok (.aload_n 0, 1) := by decide +kernel
theorem dJx4a65c_grow_92f84_46 : decode cJx4a65c_grow_92f84 46 = .ok (.bipush 10, 2) := by decide +kernel
theorem dJx4a65c_grow_92f84_48 : decode cJx4a65c_grow_92f84 48 = .ok (.iload_n 1, 1) := by decide +kernel
theorem dJx4a65c_grow_92f84_49 : decode cJx4a65c_grow_92f84 49 = .ok (.invokestatic 79, 3) := by decide +kernel
theorem dJx4a65c_grow_92f84_52 : decode cJx4a65c_grow_92f84 52 = .ok (.anewarray 7, 3) := by decide +kernel
theorem dJx4a65c_grow_92f84_55 : decode cJx4a65c_grow_92f84 55 = .ok (.dup_x1, 1) := by decide +kernel
theorem dJx4a65c_grow_92f84_56 : decode cJx4a65c_grow_92f84 56 = .ok (.putfield 9, 3) := by decide +kernel
theorem dJx4a65c_grow_92f84_59 : decode cJx4a65c_grow_92f84 59 = .ok (.areturn, 1) := by decide +kernel
theorem dJx4a65c_grow_d5877_0 : decode cJx4a65c_grow_d5877 0 = .ok (.aload_n 0, 1) := by decide +kernel
theorem dJx4a65c_grow_d5877_1 : decode cJx4a65c_grow_d5877 1 = .ok (.aload_n 0, 1) := by decide +kernel
theorem dJx4a65c_grow_d5877_2 : decode cJx4a65c_grow_d5877 2 = .ok (.getfield 48, 3) := by decide +kernel
theorem dJx4a65c_grow_d5877_5 : decode cJx4a65c_grow_d5877 5 = .ok (.iconst 1, 1) := by decide +kernel
theorem dJx4a65c_grow_d5877_6 : decode cJx4a65c_grow_d5877 6 = .ok (.iadd, 1) := by decide +kernel
theorem dJx4a65c_grow_d5877_7 : decode cJx4a65c_grow_d5877 7 = .ok (.invokevirtual 69, 3) := by decide +kernel
theorem dJx4a65c_grow_d5877_10 : decode cJx4a65c_grow_d5877 10 = .ok (.areturn, 1) := by decide +kernel
theorem dJx4a65c_size_8abf5_0 : decode cJx4a65c_size_8abf5 0 = .ok (.aload_n 0, 1) := by decide +kernel
theorem dJx4a65c_size_8abf5_1 : decode cJx4a65c_size_8abf5 1 = .ok (.getfield 48, 3) := by decide +kernel
theorem dJx4a65c_size_8abf5_4 : decode cJx4a65c_size_8abf5 4 = .ok (.ireturn, 1) := by decide +kernel
theorem dJx4a65c_elementData_915e3_0 : decode cJx4a65c_elementData_915e3 0 = .ok (.aload_n 0, 1) := by decide +kernel
theorem dJx4a65c_elementData_915e3_1 : decode cJx4a65c_elementData_915e3 1 = .ok (.getfield 9, 3) := by decide +kernel
theorem dJx4a65c_elementData_915e3_4 : decode cJx4a65c_elementData_915e3 4 = .ok (.iload_n 1, 1) := by decide +kernel
theorem dJx4a65c_elementData_915e3_5 : decode cJx4a65c_elementData_915e3 5 = .ok (.aaload, 1) := by decide +kernel
theorem dJx4a65c_elementData_915e3_6 : decode cJx4a65c_elementData_915e3 6 = .ok (.areturn, 1) := by decide +kernel
theorem dJx4a65c_get_915e3_0 : decode cJx4a65c_get_915e3 0 = .ok (.iload_n 1, 1) := by decide +kernel
theorem dJx4a65c_get_915e3_1 : decode cJx4a65c_get_915e3 1 = .ok (.aload_n 0, 1) := by decide +kernel
theorem dJx4a65c_get_915e3_2 : decode cJx4a65c_get_915e3 2 = .ok (.getfield 48, 3) := by decide +kernel
theorem dJx4a65c_get_915e3_5 : decode cJx4a65c_get_915e3 5 = .ok (.invokestatic 118, 3) := by decide +kernel
theorem dJx4a65c_get_915e3_8 : decode cJx4a65c_get_915e3 8 = .ok (.pop, 1) := by decide +kernel
theorem dJx4a65c_get_915e3_9 : decode cJx4a65c_get_915e3 9 = .ok (.aload_n 0, 1) := by decide +kernel
theorem dJx4a65c_get_915e3_10 : decode cJx4a65c_get_915e3 10 = .ok (.iload_n 1, 1) := by decide +kernel
theorem dJx4a65c_get_915e3_11 : decode cJx4a65c_get_915e3 11 = .ok (.invokevirtual 123, 3) := by decide +kernel
theorem dJx4a65c_get_915e3_14 : decode cJx4a65c_get_915e3 14 = .ok (.areturn, 1) := by decide +kernel
theorem dJx4a65c_add_72be8_0 : decode cJx4a65c_add_72be8 0 = .ok (.iload_n 3, 1) := by decide +kernel
theorem dJx4a65c_add_72be8_1 : decode cJx4a65c_add_72be8 1 = .ok (.aload_n 2, 1) := by decide +kernel
theorem dJx4a65c_add_72be8_2 : decode cJx4a65c_add_72be8 2 = .ok (.arraylength, 1) := by decide +kernel
theorem dJx4a65c_add_72be8_3 : decode cJx4a65c_add_72be8 3 = .ok (.if_icmp .ne 8, 3) := by decide +kernel
theorem dJx4a65c_add_72be8_6 : decode cJx4a65c_add_72be8 6 = .ok (.aload_n 0, 1) := by decide +kernel
theorem dJx4a65c_add_72be8_7 : decode cJx4a65c_add_72be8 7 = .ok (.invokevirtual 129, 3) := by decide +kernel
theorem dJx4a65c_add_72be8_10 : decode cJx4a65c_add_72be8 10 = .ok (.astore_n 2, 1) := by decide +kernel
theorem dJx4a65c_add_72be8_11 : decode cJx4a65c_add_72be8 11 = .ok (.aload_n 2, 1) := by decide +kernel
theorem dJx4a65c_add_72be8_12 : decode cJx4a65c_add_72be8 12 = .ok (.iload_n 3, 1) := by decide +kernel
theorem dJx4a65c_add_72be8_13 : decode cJx4a65c_add_72be8 13 = .ok (.aload_n 1, 1) := by decide +kernel
theorem dJx4a65c_add_72be8_14 : decode cJx4a65c_add_72be8 14 = .ok (.aastore, 1) := by decide +kernel
theorem dJx4a65c_add_72be8_15 : decode cJx4a65c_add_72be8 15 = .ok (.aload_n 0, 1) := by decide +kernel
theorem dJx4a65c_add_72be8_16 : decode cJx4a65c_add_72be8 16 = .ok (.iload_n 3, 1) := by decide +kernel
theorem dJx4a65c_add_72be8_17 : decode cJx4a65c_add_72be8 17 = .ok (.iconst 1, 1) := by decide +kernel
theorem dJx4a65c_add_72be8_18 : decode cJx4a65c_add_72be8 18 = .ok (.iadd, 1) := by decide +kernel
theorem dJx4a65c_add_72be8_19 : decode cJx4a65c_add_72be8 19 = .ok (.putfield 48, 3) := by decide +kernel
theorem dJx4a65c_add_72be8_22 : decode cJx4a65c_add_72be8 22 = .ok (.return_, 1) := by decide +kernel
theorem dJx4a65c_add_9ea2d_0 : decode cJx4a65c_add_9ea2d 0 = .ok (.aload_n 0, 1) := by decide +kernel
theorem dJx4a65c_add_9ea2d_1 : decode cJx4a65c_add_9ea2d 1 = .ok (.dup, 1) := by decide +kernel
theorem dJx4a65c_add_9ea2d_2 : decode cJx4a65c_add_9ea2d 2 = .ok (.getfield 63, 3) := by decide +kernel
theorem dJx4a65c_add_9ea2d_5 : decode cJx4a65c_add_9ea2d 5 = .ok (.iconst 1, 1) := by decide +kernel
theorem dJx4a65c_add_9ea2d_6 : decode cJx4a65c_add_9ea2d 6 = .ok (.iadd, 1) := by decide +kernel
theorem dJx4a65c_add_9ea2d_7 : decode cJx4a65c_add_9ea2d 7 = .ok (.putfield 63, 3) := by decide +kernel
theorem dJx4a65c_add_9ea2d_10 : decode cJx4a65c_add_9ea2d 10 = .ok (.aload_n 0, 1) := by decide +kernel
theorem dJx4a65c_add_9ea2d_11 : decode cJx4a65c_add_9ea2d 11 = .ok (.aload_n 1, 1) := by decide +kernel
theorem dJx4a65c_add_9ea2d_12 : decode cJx4a65c_add_9ea2d 12 = .ok (.aload_n 0, 1) := by decide +kernel
theorem dJx4a65c_add_9ea2d_13 : decode cJx4a65c_add_9ea2d 13 = .ok (.getfield 9, 3) := by decide +kernel
theorem dJx4a65c_add_9ea2d_16 : decode cJx4a65c_add_9ea2d 16 = .ok (.aload_n 0, 1) := by decide +kernel
theorem dJx4a65c_add_9ea2d_17 : decode cJx4a65c_add_9ea2d 17 = .ok (.getfield 48, 3) := by decide +kernel
theorem dJx4a65c_add_9ea2d_20 : decode cJx4a65c_add_9ea2d 20 = .ok (.invokevirtual 131, 3) := by decide +kernel
theorem dJx4a65c_add_9ea2d_23 : decode cJx4a65c_add_9ea2d 23 = .ok (.iconst 1, 1) := by decide +kernel
theorem dJx4a65c_add_9ea2d_24 : decode cJx4a65c_add_9ea2d 24 = .ok (.ireturn, 1) := by decide +kernel
theorem dJ7_copyOf_1904c_0 : decode cJ7_copyOf_1904c 0 = .ok (.aload_n 0, 1) := by decide +kernel
theorem dJ7_copyOf_1904c_1 : decode cJ7_copyOf_1904c 1 = .ok (.iload_n 1, 1) := by decide +kernel
theorem dJ7_copyOf_1904c_2 : decode cJ7_copyOf_1904c 2 = .ok (.aload_n 0, 1) := by decide +kernel
theorem dJ7_copyOf_1904c_3 : decode cJ7_copyOf_1904c 3 = .ok (.invokevirtual 86, 3) := by decide +kernel
theorem dJ7_copyOf_1904c_6 : decode cJ7_copyOf_1904c 6 = .ok (.invokestatic 300, 3) := by decide +kernel
theorem dJ7_copyOf_1904c_9 : decode cJ7_copyOf_1904c 9 = .ok (.areturn, 1) := by decide +kernel
theorem dJ7_copyOf_6403c_0 : decode cJ7_copyOf_6403c 0 = .ok (.aload_n 2, 1) := by decide +kernel
theorem dJ7_copyOf_6403c_1 : decode cJ7_copyOf_6403c 1 = .ok (.ldc 110, 2) := by decide +kernel
theorem dJ7_copyOf_6403c_3 : decode cJ7_copyOf_6403c 3 = .ok (.if_acmp .ne 10, 3) := by decide +kernel
theorem dJ7_copyOf_6403c_6 : decode cJ7_copyOf_6403c 6 = .ok (.iload_n 1, 1) := by decide +kernel
theorem dJ7_copyOf_6403c_7 : decode cJ7_copyOf_6403c 7 = .ok (.anewarray 2, 3) := by decide +kernel
theorem dJ7_copyOf_6403c_10 : decode cJ7_copyOf_6403c 10 = .ok (.goto 14, 3) := by decide +kernel
theorem dJ7_copyOf_6403c_13 : decode cJ7_copyOf_6403c 13 = .ok (.aload_n 2, 1) := by decide +kernel
theorem dJ7_copyOf_6403c_14 : decode cJ7_copyOf_6403c 14 = .ok (.invokevirtual 90, 3) := by decide +kernel
theorem dJ7_copyOf_6403c_17 : decode cJ7_copyOf_6403c 17 = .ok (.iload_n 1, 1) := by decide +kernel
theorem dJ7_copyOf_6403c_18 : decode cJ7_copyOf_6403c 18 = .ok (.invokestatic 95, 3) := by decide +kernel
theorem dJ7_copyOf_6403c_21 : decode cJ7_copyOf_6403c 21 = .ok (.checkcast 110, 3) := by decide +kernel
theorem dJ7_copyOf_6403c_24 : decode cJ7_copyOf_6403c 24 = .ok (.astore_n 3, 1) := by decide +kernel
theorem dJ7_copyOf_6403c_25 : decode cJ7_copyOf_6403c 25 = .ok (.aload_n 0, 1) := by decide +kernel
theorem dJ7_copyOf_6403c_26 : decode cJ7_copyOf_6403c 26 = .ok (.iconst 0, 1) := by decide +kernel
theorem dJ7_copyOf_6403c_27 : decode cJ7_copyOf_6403c 27 = .ok (.aload_n 3, 1) := by decide +kernel
theorem dJ7_copyOf_6403c_28 : decode cJ7_copyOf_6403c 28 = .ok (.iconst 0, 1) := by decide +kernel
theorem dJ7_copyOf_6403c_29 : decode cJ7_copyOf_6403c 29 = .ok (.aload_n 0, 1) := by decide +kernel
theorem dJ7_copyOf_6403c_30 : decode cJ7_copyOf_6403c 30 = .ok (.arraylength, 1) := by decide +kernel
theorem dJ7_copyOf_6403c_31 : decode cJ7_copyOf_6403c 31 = .ok (.iload_n 1, 1) := by decide +kernel
theorem dJ7_copyOf_6403c_32 : decode cJ7_copyOf_6403c 32 = .ok (.invokestatic 304, 3) := by decide +kernel
theorem dJ7_copyOf_6403c_35 : decode cJ7_copyOf_6403c 35 = .ok (.invokestatic 150, 3) := by decide +kernel
theorem dJ7_copyOf_6403c_38 : decode cJ7_copyOf_6403c 38 = .ok (.aload_n 3, 1) := by decide +kernel
theorem dJ7_copyOf_6403c_39 : decode cJ7_copyOf_6403c 39 = .ok (.areturn, 1) := by decide +kernel
theorem dJ15_checkIndex_7cf53_0 : decode cJ15_checkIndex_7cf53 0 = .ok (.iload_n 0, 1) := by decide +kernel
theorem dJ15_checkIndex_7cf53_1 : decode cJ15_checkIndex_7cf53 1 = .ok (.iload_n 1, 1) := by decide +kernel
theorem dJ15_checkIndex_7cf53_2 : decode cJ15_checkIndex_7cf53 2 = .ok (.aconst_null, 1) := by decide +kernel
theorem dJ15_checkIndex_7cf53_3 : decode cJ15_checkIndex_7cf53 3 = .ok (.invokestatic 105, 3) := by decide +kernel
theorem dJ15_checkIndex_7cf53_6 : decode cJ15_checkIndex_7cf53 6 = .ok (.ireturn, 1) := by decide +kernel
theorem dJ8_newLength_cabcc_0 : decode cJ8_newLength_cabcc 0 = .ok (.iload_n 0, 1) := by decide +kernel
theorem dJ8_newLength_cabcc_1 : decode cJ8_newLength_cabcc 1 = .ok (.iload_n 1, 1) := by decide +kernel
theorem dJ8_newLength_cabcc_2 : decode cJ8_newLength_cabcc 2 = .ok (.iload_n 2, 1) := by decide +kernel
theorem dJ8_newLength_cabcc_3 : decode cJ8_newLength_cabcc 3 = .ok (.invokestatic 194, 3) := by decide +kernel
theorem dJ8_newLength_cabcc_6 : decode cJ8_newLength_cabcc 6 = .ok (.iadd, 1) := by decide +kernel
theorem dJ8_newLength_cabcc_7 : decode cJ8_newLength_cabcc 7 = .ok (.istore_n 3, 1) := by decide +kernel
theorem dJ8_newLength_cabcc_8 : decode cJ8_newLength_cabcc 8 = .ok (.iconst 0, 1) := by decide +kernel
theorem dJ8_newLength_cabcc_9 : decode cJ8_newLength_cabcc 9 = .ok (.iload_n 3, 1) := by decide +kernel
theorem dJ8_newLength_cabcc_10 : decode cJ8_newLength_cabcc 10 = .ok (.if_icmp .ge 11, 3) := by decide +kernel
theorem dJ8_newLength_cabcc_13 : decode cJ8_newLength_cabcc 13 = .ok (.iload_n 3, 1) := by decide +kernel
theorem dJ8_newLength_cabcc_14 : decode cJ8_newLength_cabcc 14 = .ok (.ldc 200, 2) := by decide +kernel
theorem dJ8_newLength_cabcc_16 : decode cJ8_newLength_cabcc 16 = .ok (.if_icmp .gt 5, 3) := by decide +kernel
theorem dJ8_newLength_cabcc_19 : decode cJ8_newLength_cabcc 19 = .ok (.iload_n 3, 1) := by decide +kernel
theorem dJ8_newLength_cabcc_20 : decode cJ8_newLength_cabcc 20 = .ok (.ireturn, 1) := by decide +kernel
theorem dJ8_newLength_cabcc_21 : decode cJ8_newLength_cabcc 21 = .ok (.iload_n 0, 1) := by decide +kernel
theorem dJ8_newLength_cabcc_22 : decode cJ8_newLength_cabcc 22 = .ok (.iload_n 1, 1) := by decide +kernel
theorem dJ8_newLength_cabcc_23 : decode cJ8_newLength_cabcc 23 = .ok (.invokestatic 201, 3) := by decide +kernel
theorem dJ8_newLength_cabcc_26 : decode cJ8_newLength_cabcc 26 = .ok (.ireturn, 1) := by decide +kernel
theorem dJ8_hugeLength_7cf53_0 : decode cJ8_hugeLength_7cf53 0 = .ok (.iload_n 0, 1) := by decide +kernel
theorem dJ8_hugeLength_7cf53_1 : decode cJ8_hugeLength_7cf53 1 = .ok (.iload_n 1, 1) := by decide +kernel
theorem dJ8_hugeLength_7cf53_2 : decode cJ8_hugeLength_7cf53 2 = .ok (.iadd, 1) := by decide +kernel
theorem dJ8_hugeLength_7cf53_3 : decode cJ8_hugeLength_7cf53 3 = .ok (.istore_n 2, 1) := by decide +kernel
theorem dJ8_hugeLength_7cf53_4 : decode cJ8_hugeLength_7cf53 4 = .ok (.iload_n 2, 1) := by decide +kernel
theorem dJ8_hugeLength_7cf53_5 : decode cJ8_hugeLength_7cf53 5 = .ok (.ifCond .ge 44, 3) := by decide +kernel
theorem dJ8_hugeLength_7cf53_8 : decode cJ8_hugeLength_7cf53 8 = .ok (.new 204, 3) := by decide +kernel
theorem dJ8_hugeLength_7cf53_11 : decode cJ8_hugeLength_7cf53 11 = .ok (.dup, 1) := by decide +kernel
theorem dJ8_hugeLength_7cf53_12 : decode cJ8_hugeLength_7cf53 12 = .ok (.new 89, 3) := by decide +kernel
theorem dJ8_hugeLength_7cf53_15 : decode cJ8_hugeLength_7cf53 15 = .ok (.dup, 1) := by decide +kernel
theorem dJ8_hugeLength_7cf53_16 : decode cJ8_hugeLength_7cf53 16 = .ok (.invokespecial 91, 3) := by decide +kernel
theorem dJ8_hugeLength_7cf53_19 : decode cJ8_hugeLength_7cf53 19 = .ok (.ldc 206, 2) := by decide +kernel
theorem dJ8_hugeLength_7cf53_21 : decode cJ8_hugeLength_7cf53 21 = .ok (.invokevirtual 94, 3) := by decide +kernel
theorem dJ8_hugeLength_7cf53_24 : decode cJ8_hugeLength_7cf53 24 = .ok (.iload_n 0, 1) := by decide +kernel
theorem dJ8_hugeLength_7cf53_25 : decode cJ8_hugeLength_7cf53 25 = .ok (.invokevirtual 98, 3) := by decide +kernel
theorem dJ8_hugeLength_7cf53_28 : decode cJ8_hugeLength_7cf53 28 = .ok (.ldc 208, 2) := by decide +kernel
theorem dJ8_hugeLength_7cf53_30 : decode cJ8_hugeLength_7cf53 30 = .ok (.invokevirtual 94, 3) := by decide +kernel
theorem dJ8_hugeLength_7cf53_33 : decode cJ8_hugeLength_7cf53 33 = .ok (.iload_n 1, 1) := by decide +kernel
theorem dJ8_hugeLength_7cf53_34 : decode cJ8_hugeLength_7cf53 34 = .ok (.invokevirtual 98, 3) := by decide +kernel
theorem dJ8_hugeLength_7cf53_37 : decode cJ8_hugeLength_7cf53 37 = .ok (.ldc 210, 2) := by decide +kernel
theorem dJ8_hugeLength_7cf53_39 : decode cJ8_hugeLength_7cf53 39 = .ok (.invokevirtual 94, 3) := by decide +kernel
theorem dJ8_hugeLength_7cf53_42 : decode cJ8_hugeLength_7cf53 42 = .ok (.invokevirtual 101, 3) := by decide +kernel
theorem dJ8_hugeLength_7cf53_45 : decode cJ8_hugeLength_7cf53 45 = .ok (.invokespecial 212, 3) := by decide +kernel
theorem dJ8_hugeLength_7cf53_48 : decode cJ8_hugeLength_7cf53 48 = .ok (.athrow, 1) := by decide +kernel
theorem dJ8_hugeLength_7cf53_49 : decode cJ8_hugeLength_7cf53 49 = .ok (.iload_n 2, 1) := by decide +kernel
theorem dJ8_hugeLength_7cf53_50 : decode cJ8_hugeLength_7cf53 50 = .ok (.ldc 200, 2) := by decide +kernel
theorem dJ8_hugeLength_7cf53_52 : decode cJ8_hugeLength_7cf53 52 = .ok (.if_icmp .gt 6, 3) := by decide +kernel
theorem dJ8_hugeLength_7cf53_55 : decode cJ8_hugeLength_7cf53 55 = .ok (.ldc 200, 2) := by decide +kernel
theorem dJ8_hugeLength_7cf53_57 : decode cJ8_hugeLength_7cf53 57 = .ok (.ireturn, 1) := by decide +kernel
theorem dJ8_hugeLength_7cf53_58 : decode cJ8_hugeLength_7cf53 58 = .ok (.iload_n 2, 1) := by decide +kernel
theorem dJ8_hugeLength_7cf53_59 : decode cJ8_hugeLength_7cf53 59 = .ok (.ireturn, 1) := by decide +kernel
theorem dJ3_checkIndex_8e157_0 : decode cJ3_checkIndex_8e157 0 = .ok (.iload_n 0, 1) := by decide +kernel
theorem dJ3_checkIndex_8e157_1 : decode cJ3_checkIndex_8e157 1 = .ok (.ifCond .lt 8, 3) := by decide +kernel
theorem dJ3_checkIndex_8e157_4 : decode cJ3_checkIndex_8e157 4 = .ok (.iload_n 0, 1) := by decide +kernel
theorem dJ3_checkIndex_8e157_5 : decode cJ3_checkIndex_8e157 5 = .ok (.iload_n 1, 1) := by decide +kernel
theorem dJ3_checkIndex_8e157_6 : decode cJ3_checkIndex_8e157 6 = .ok (.if_icmp .lt 10, 3) := by decide +kernel
theorem dJ3_checkIndex_8e157_9 : decode cJ3_checkIndex_8e157 9 = .ok (.aload_n 2, 1) := by decide +kernel
theorem dJ3_checkIndex_8e157_10 : decode cJ3_checkIndex_8e157 10 = .ok (.iload_n 0, 1) := by decide +kernel
theorem dJ3_checkIndex_8e157_11 : decode cJ3_checkIndex_8e157 11 = .ok (.iload_n 1, 1) := by decide +kernel
theorem dJ3_checkIndex_8e157_12 : decode cJ3_checkIndex_8e157 12 = .ok (.invokestatic 95, 3) := by decide +kernel
theorem dJ3_checkIndex_8e157_15 : decode cJ3_checkIndex_8e157 15 = .ok (.athrow, 1) := by decide +kernel
theorem dJ3_checkIndex_8e157_16 : decode cJ3_checkIndex_8e157 16 = .ok (.iload_n 0, 1) := by decide +kernel
theorem dJ3_checkIndex_8e157_17 : decode cJ3_checkIndex_8e157 17 = .ok (.ireturn, 1) := by decide +kernel
