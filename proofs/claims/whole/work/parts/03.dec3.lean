theorem dX11_spoils_57 : decode cX11_spoils 57 = .ok (.iinc 2 1, 3) := by decide +kernel
theorem dX11_spoils_60 : decode cX11_spoils 60 = .ok (.goto (-43), 3) := by decide +kernel
theorem dX11_spoils_63 : decode cX11_spoils 63 = .ok (.iinc 1 1, 3) := by decide +kernel
theorem dX11_spoils_66 : decode cX11_spoils 66 = .ok (.goto (-64), 3) := by decide +kernel
theorem dX11_spoils_69 : decode cX11_spoils 69 = .ok (.return_, 1) := by decide +kernel
theorem dX11_takes_0 : decode cX11_takes 0 = .ok (.aload_n 0, 1) := by decide +kernel
theorem dX11_takes_1 : decode cX11_takes 1 = .ok (.getfield 65, 3) := by decide +kernel
theorem dX11_takes_4 : decode cX11_takes 4 = .ok (.iload_n 1, 1) := by decide +kernel
theorem dX11_takes_5 : decode cX11_takes 5 = .ok (.iaload, 1) := by decide +kernel
theorem dX11_takes_6 : decode cX11_takes 6 = .ok (.ifCond .le 4, 3) := by decide +kernel
theorem dX11_takes_9 : decode cX11_takes 9 = .ok (.return_, 1) := by decide +kernel
theorem dX11_takes_10 : decode cX11_takes 10 = .ok (.aload_n 0, 1) := by decide +kernel
theorem dX11_takes_11 : decode cX11_takes 11 = .ok (.getfield 62, 3) := by decide +kernel
theorem dX11_takes_14 : decode cX11_takes 14 = .ok (.iload_n 1, 1) := by decide +kernel
theorem dX11_takes_15 : decode cX11_takes 15 = .ok (.iconst 0, 1) := by decide +kernel
theorem dX11_takes_16 : decode cX11_takes 16 = .ok (.iastore, 1) := by decide +kernel
theorem dX11_takes_17 : decode cX11_takes 17 = .ok (.aload_n 0, 1) := by decide +kernel
theorem dX11_takes_18 : decode cX11_takes 18 = .ok (.getfield 92, 3) := by decide +kernel
theorem dX11_takes_21 : decode cX11_takes 21 = .ok (.bipush 24, 2) := by decide +kernel
theorem dX11_takes_23 : decode cX11_takes 23 = .ok (.if_icmp .le 13, 3) := by decide +kernel
theorem dX11_takes_26 : decode cX11_takes 26 = .ok (.aload_n 0, 1) := by decide +kernel
theorem dX11_takes_27 : decode cX11_takes 27 = .ok (.getfield 92, 3) := by decide +kernel
theorem dX11_takes_30 : decode cX11_takes 30 = .ok (.bipush 24, 2) := by decide +kernel
theorem dX11_takes_32 : decode cX11_takes 32 = .ok (.isub, 1) := by decide +kernel
theorem dX11_takes_33 : decode cX11_takes 33 = .ok (.goto 4, 3) := by decide +kernel
theorem dX11_takes_36 : decode cX11_takes 36 = .ok (.iconst 0, 1) := by decide +kernel
theorem dX11_takes_37 : decode cX11_takes 37 = .ok (.istore_n 2, 1) := by decide +kernel
theorem dX11_takes_38 : decode cX11_takes 38 = .ok (.bipush 6, 2) := by decide +kernel
theorem dX11_takes_40 : decode cX11_takes 40 = .ok (.iload_n 2, 1) := by decide +kernel
theorem dX11_takes_41 : decode cX11_takes 41 = .ok (.imul, 1) := by decide +kernel
theorem dX11_takes_42 : decode cX11_takes 42 = .ok (.istore_n 3, 1) := by decide +kernel
theorem dX11_takes_43 : decode cX11_takes 43 = .ok (.iload_n 3, 1) := by decide +kernel
theorem dX11_takes_44 : decode cX11_takes 44 = .ok (.bipush 6, 2) := by decide +kernel
theorem dX11_takes_46 : decode cX11_takes 46 = .ok (.aload_n 0, 1) := by decide +kernel
theorem dX11_takes_47 : decode cX11_takes 47 = .ok (.getfield 92, 3) := by decide +kernel
theorem dX11_takes_50 : decode cX11_takes 50 = .ok (.imul, 1) := by decide +kernel
theorem dX11_takes_51 : decode cX11_takes 51 = .ok (.bipush 6, 2) := by decide +kernel
theorem dX11_takes_53 : decode cX11_takes 53 = .ok (.iadd, 1) := by decide +kernel
theorem dX11_takes_54 : decode cX11_takes 54 = .ok (.if_icmp .ge 77, 3) := by decide +kernel
theorem dX11_takes_57 : decode cX11_takes 57 = .ok (.aload_n 0, 1) := by decide +kernel
theorem dX11_takes_58 : decode cX11_takes 58 = .ok (.getfield 50, 3) := by decide +kernel
theorem dX11_takes_61 : decode cX11_takes 61 = .ok (.iload_n 3, 1) := by decide +kernel
theorem dX11_takes_62 : decode cX11_takes 62 = .ok (.iaload, 1) := by decide +kernel
theorem dX11_takes_63 : decode cX11_takes 63 = .ok (.ifCond .le 62, 3) := by decide +kernel
theorem dX11_takes_66 : decode cX11_takes 66 = .ok (.aload_n 0, 1) := by decide +kernel
theorem dX11_takes_67 : decode cX11_takes 67 = .ok (.getfield 65, 3) := by decide +kernel
theorem dX11_takes_70 : decode cX11_takes 70 = .ok (.iload_n 1, 1) := by decide +kernel
theorem dX11_takes_71 : decode cX11_takes 71 = .ok (.iaload, 1) := by decide +kernel
theorem dX11_takes_72 : decode cX11_takes 72 = .ok (.aload_n 0, 1) := by decide +kernel
theorem dX11_takes_73 : decode cX11_takes 73 = .ok (.getfield 56, 3) := by decide +kernel
theorem dX11_takes_76 : decode cX11_takes 76 = .ok (.iload_n 1, 1) := by decide +kernel
theorem dX11_takes_77 : decode cX11_takes 77 = .ok (.iaload, 1) := by decide +kernel
theorem dX11_takes_78 : decode cX11_takes 78 = .ok (.if_icmp .ge 47, 3) := by decide +kernel
theorem dX11_takes_81 : decode cX11_takes 81 = .ok (.aload_n 0, 1) := by decide +kernel
theorem dX11_takes_82 : decode cX11_takes 82 = .ok (.getfield 50, 3) := by decide +kernel
theorem dX11_takes_85 : decode cX11_takes 85 = .ok (.iload_n 3, 1) := by decide +kernel
theorem dX11_takes_86 : decode cX11_takes 86 = .ok (.dup2, 1) := by decide +kernel
theorem dX11_takes_87 : decode cX11_takes 87 = .ok (.iaload, 1) := by decide +kernel
theorem dX11_takes_88 : decode cX11_takes 88 = .ok (.iconst 1, 1) := by decide +kernel
theorem dX11_takes_89 : decode cX11_takes 89 = .ok (.isub, 1) := by decide +kernel
theorem dX11_takes_90 : decode cX11_takes 90 = .ok (.iastore, 1) := by decide +kernel
theorem dX11_takes_91 : decode cX11_takes 91 = .ok (.aload_n 0, 1) := by decide +kernel
theorem dX11_takes_92 : decode cX11_takes 92 = .ok (.getfield 68, 3) := by decide +kernel
theorem dX11_takes_95 : decode cX11_takes 95 = .ok (.sipush 200, 3) := by decide +kernel
theorem dX11_takes_98 : decode cX11_takes 98 = .ok (.iload_n 1, 1) := by decide +kernel
theorem dX11_takes_99 : decode cX11_takes 99 = .ok (.imul, 1) := by decide +kernel
theorem dX11_takes_100 : decode cX11_takes 100 = .ok (.aload_n 0, 1) := by decide +kernel
theorem dX11_takes_101 : decode cX11_takes 101 = .ok (.getfield 65, 3) := by decide +kernel
theorem dX11_takes_104 : decode cX11_takes 104 = .ok (.iload_n 1, 1) := by decide +kernel
theorem dX11_takes_105 : decode cX11_takes 105 = .ok (.iaload, 1) := by decide +kernel
theorem dX11_takes_106 : decode cX11_takes 106 = .ok (.iadd, 1) := by decide +kernel
theorem dX11_takes_107 : decode cX11_takes 107 = .ok (.iload_n 3, 1) := by decide +kernel
theorem dX11_takes_108 : decode cX11_takes 108 = .ok (.bipush 6, 2) := by decide +kernel
theorem dX11_takes_110 : decode cX11_takes 110 = .ok (.irem, 1) := by decide +kernel
theorem dX11_takes_111 : decode cX11_takes 111 = .ok (.iastore, 1) := by decide +kernel
theorem dX11_takes_112 : decode cX11_takes 112 = .ok (.aload_n 0, 1) := by decide +kernel
theorem dX11_takes_113 : decode cX11_takes 113 = .ok (.getfield 65, 3) := by decide +kernel
theorem dX11_takes_116 : decode cX11_takes 116 = .ok (.iload_n 1, 1) := by decide +kernel
theorem dX11_takes_117 : decode cX11_takes 117 = .ok (.dup2, 1) := by decide +kernel
theorem dX11_takes_118 : decode cX11_takes 118 = .ok (.iaload, 1) := by decide +kernel
theorem dX11_takes_119 : decode cX11_takes 119 = .ok (.iconst 1, 1) := by decide +kernel
theorem dX11_takes_120 : decode cX11_takes 120 = .ok (.iadd, 1) := by decide +kernel
theorem dX11_takes_121 : decode cX11_takes 121 = .ok (.iastore, 1) := by decide +kernel
theorem dX11_takes_122 : decode cX11_takes 122 = .ok (.goto (-65), 3) := by decide +kernel
theorem dX11_takes_125 : decode cX11_takes 125 = .ok (.iinc 3 1, 3) := by decide +kernel
theorem dX11_takes_128 : decode cX11_takes 128 = .ok (.goto (-85), 3) := by decide +kernel
theorem dX11_takes_131 : decode cX11_takes 131 = .ok (.return_, 1) := by decide +kernel
theorem dX11_oneHour_0 : decode cX11_oneHour 0 = .ok (.iconst 0, 1) := by decide +kernel
theorem dX11_oneHour_1 : decode cX11_oneHour 1 = .ok (.istore_n 1, 1) := by decide +kernel
theorem dX11_oneHour_2 : decode cX11_oneHour 2 = .ok (.iload_n 1, 1) := by decide +kernel
theorem dX11_oneHour_3 : decode cX11_oneHour 3 = .ok (.aload_n 0, 1) := by decide +kernel
theorem dX11_oneHour_4 : decode cX11_oneHour 4 = .ok (.getfield 102, 3) := by decide +kernel
theorem dX11_oneHour_7 : decode cX11_oneHour 7 = .ok (.if_icmp .ge 14, 3) := by decide +kernel
theorem dX11_oneHour_10 : decode cX11_oneHour 10 = .ok (.aload_n 0, 1) := by decide +kernel
theorem dX11_oneHour_11 : decode cX11_oneHour 11 = .ok (.iload_n 1, 1) := by decide +kernel
theorem dX11_oneHour_12 : decode cX11_oneHour 12 = .ok (.invokevirtual 157, 3) := by decide +kernel
theorem dX11_oneHour_15 : decode cX11_oneHour 15 = .ok (.iinc 1 1, 3) := by decide +kernel
theorem dX11_oneHour_18 : decode cX11_oneHour 18 = .ok (.goto (-16), 3) := by decide +kernel
theorem dX11_oneHour_21 : decode cX11_oneHour 21 = .ok (.iconst 0, 1) := by decide +kernel
theorem dX11_oneHour_22 : decode cX11_oneHour 22 = .ok (.istore_n 1, 1) := by decide +kernel
theorem dX11_oneHour_23 : decode cX11_oneHour 23 = .ok (.iload_n 1, 1) := by decide +kernel
theorem dX11_oneHour_24 : decode cX11_oneHour 24 = .ok (.aload_n 0, 1) := by decide +kernel
theorem dX11_oneHour_25 : decode cX11_oneHour 25 = .ok (.getfield 105, 3) := by decide +kernel
theorem dX11_oneHour_28 : decode cX11_oneHour 28 = .ok (.if_icmp .ge 14, 3) := by decide +kernel
theorem dX11_oneHour_31 : decode cX11_oneHour 31 = .ok (.aload_n 0, 1) := by decide +kernel
theorem dX11_oneHour_32 : decode cX11_oneHour 32 = .ok (.iload_n 1, 1) := by decide +kernel
theorem dX11_oneHour_33 : decode cX11_oneHour 33 = .ok (.invokevirtual 160, 3) := by decide +kernel
theorem dX11_oneHour_36 : decode cX11_oneHour 36 = .ok (.iinc 1 1, 3) := by decide +kernel
theorem dX11_oneHour_39 : decode cX11_oneHour 39 = .ok (.goto (-16), 3) := by decide +kernel
theorem dX11_oneHour_42 : decode cX11_oneHour 42 = .ok (.aload_n 0, 1) := by decide +kernel
theorem dX11_oneHour_43 : decode cX11_oneHour 43 = .ok (.invokevirtual 163, 3) := by decide +kernel
theorem dX11_oneHour_46 : decode cX11_oneHour 46 = .ok (.iconst 0, 1) := by decide +kernel
theorem dX11_oneHour_47 : decode cX11_oneHour 47 = .ok (.istore_n 1, 1) := by decide +kernel
theorem dX11_oneHour_48 : decode cX11_oneHour 48 = .ok (.iload_n 1, 1) := by decide +kernel
theorem dX11_oneHour_49 : decode cX11_oneHour 49 = .ok (.aload_n 0, 1) := by decide +kernel
theorem dX11_oneHour_50 : decode cX11_oneHour 50 = .ok (.getfield 105, 3) := by decide +kernel
theorem dX11_oneHour_53 : decode cX11_oneHour 53 = .ok (.if_icmp .ge 14, 3) := by decide +kernel
theorem dX11_oneHour_56 : decode cX11_oneHour 56 = .ok (.aload_n 0, 1) := by decide +kernel
theorem dX11_oneHour_57 : decode cX11_oneHour 57 = .ok (.iload_n 1, 1) := by decide +kernel
theorem dX11_oneHour_58 : decode cX11_oneHour 58 = .ok (.invokevirtual 166, 3) := by decide +kernel
theorem dX11_oneHour_61 : decode cX11_oneHour 61 = .ok (.iinc 1 1, 3) := by decide +kernel
theorem dX11_oneHour_64 : decode cX11_oneHour 64 = .ok (.goto (-16), 3) := by decide +kernel
theorem dX11_oneHour_67 : decode cX11_oneHour 67 = .ok (.aload_n 0, 1) := by decide +kernel
theorem dX11_oneHour_68 : decode cX11_oneHour 68 = .ok (.dup, 1) := by decide +kernel
theorem dX11_oneHour_69 : decode cX11_oneHour 69 = .ok (.getfield 92, 3) := by decide +kernel
theorem dX11_oneHour_72 : decode cX11_oneHour 72 = .ok (.iconst 1, 1) := by decide +kernel
theorem dX11_oneHour_73 : decode cX11_oneHour 73 = .ok (.iadd, 1) := by decide +kernel
theorem dX11_oneHour_74 : decode cX11_oneHour 74 = .ok (.putfield 92, 3) := by decide +kernel
theorem dX11_oneHour_77 : decode cX11_oneHour 77 = .ok (.return_, 1) := by decide +kernel
theorem dX11_hours_0 : decode cX11_hours 0 = .ok (.iload_n 1, 1) := by decide +kernel
theorem dX11_hours_1 : decode cX11_hours 1 = .ok (.iconst 1, 1) := by decide +kernel
theorem dX11_hours_2 : decode cX11_hours 2 = .ok (.bipush 24, 2) := by decide +kernel
theorem dX11_hours_4 : decode cX11_hours 4 = .ok (.invokestatic 98, 3) := by decide +kernel
theorem dX11_hours_7 : decode cX11_hours 7 = .ok (.ifCond .ne 5, 3) := by decide +kernel
theorem dX11_hours_10 : decode cX11_hours 10 = .ok (.iconst (-1), 1) := by decide +kernel
theorem dX11_hours_11 : decode cX11_hours 11 = .ok (.ireturn, 1) := by decide +kernel
theorem dX11_hours_12 : decode cX11_hours 12 = .ok (.aload_n 0, 1) := by decide +kernel
theorem dX11_hours_13 : decode cX11_hours 13 = .ok (.getfield 92, 3) := by decide +kernel
theorem dX11_hours_16 : decode cX11_hours 16 = .ok (.iload_n 1, 1) := by decide +kernel
theorem dX11_hours_17 : decode cX11_hours 17 = .ok (.iadd, 1) := by decide +kernel
theorem dX11_hours_18 : decode cX11_hours 18 = .ok (.sipush 480, 3) := by decide +kernel
theorem dX11_hours_21 : decode cX11_hours 21 = .ok (.if_icmp .le 6, 3) := by decide +kernel
theorem dX11_hours_24 : decode cX11_hours 24 = .ok (.bipush (-2), 2) := by decide +kernel
theorem dX11_hours_26 : decode cX11_hours 26 = .ok (.ireturn, 1) := by decide +kernel
theorem dX11_hours_27 : decode cX11_hours 27 = .ok (.iconst 0, 1) := by decide +kernel
theorem dX11_hours_28 : decode cX11_hours 28 = .ok (.istore_n 2, 1) := by decide +kernel
theorem dX11_hours_29 : decode cX11_hours 29 = .ok (.iload_n 2, 1) := by decide +kernel
theorem dX11_hours_30 : decode cX11_hours 30 = .ok (.iload_n 1, 1) := by decide +kernel
theorem dX11_hours_31 : decode cX11_hours 31 = .ok (.if_icmp .ge 13, 3) := by decide +kernel
theorem dX11_hours_34 : decode cX11_hours 34 = .ok (.aload_n 0, 1) := by decide +kernel
theorem dX11_hours_35 : decode cX11_hours 35 = .ok (.invokevirtual 169, 3) := by decide +kernel
theorem dX11_hours_38 : decode cX11_hours 38 = .ok (.iinc 2 1, 3) := by decide +kernel
theorem dX11_hours_41 : decode cX11_hours 41 = .ok (.goto (-12), 3) := by decide +kernel
theorem dX11_hours_44 : decode cX11_hours 44 = .ok (.aload_n 0, 1) := by decide +kernel
theorem dX11_hours_45 : decode cX11_hours 45 = .ok (.getfield 92, 3) := by decide +kernel
theorem dX11_hours_48 : decode cX11_hours 48 = .ok (.ireturn, 1) := by decide +kernel
theorem dX11_greenOf_0 : decode cX11_greenOf 0 = .ok (.iconst 0, 1) := by decide +kernel
theorem dX11_greenOf_1 : decode cX11_greenOf 1 = .ok (.istore_n 2, 1) := by decide +kernel
theorem dX11_greenOf_2 : decode cX11_greenOf 2 = .ok (.iconst 0, 1) := by decide +kernel
theorem dX11_greenOf_3 : decode cX11_greenOf 3 = .ok (.istore_n 3, 1) := by decide +kernel
theorem dX11_greenOf_4 : decode cX11_greenOf 4 = .ok (.iload_n 3, 1) := by decide +kernel
theorem dX11_greenOf_5 : decode cX11_greenOf 5 = .ok (.aload_n 0, 1) := by decide +kernel
theorem dX11_greenOf_6 : decode cX11_greenOf 6 = .ok (.getfield 92, 3) := by decide +kernel
theorem dX11_greenOf_9 : decode cX11_greenOf 9 = .ok (.if_icmp .ge 23, 3) := by decide +kernel
theorem dX11_greenOf_12 : decode cX11_greenOf 12 = .ok (.iload_n 2, 1) := by decide +kernel
theorem dX11_greenOf_13 : decode cX11_greenOf 13 = .ok (.aload_n 0, 1) := by decide +kernel
theorem dX11_greenOf_14 : decode cX11_greenOf 14 = .ok (.getfield 50, 3) := by decide +kernel
theorem dX11_greenOf_17 : decode cX11_greenOf 17 = .ok (.bipush 6, 2) := by decide +kernel
theorem dX11_greenOf_19 : decode cX11_greenOf 19 = .ok (.iload_n 3, 1) := by decide +kernel
theorem dX11_greenOf_20 : decode cX11_greenOf 20 = .ok (.imul, 1) := by decide +kernel
theorem dX11_greenOf_21 : decode cX11_greenOf 21 = .ok (.iload_n 1, 1) := by decide +kernel
theorem dX11_greenOf_22 : decode cX11_greenOf 22 = .ok (.iadd, 1) := by decide +kernel
theorem dX11_greenOf_23 : decode cX11_greenOf 23 = .ok (.iaload, 1) := by decide +kernel
theorem dX11_greenOf_24 : decode cX11_greenOf 24 = .ok (.iadd, 1) := by decide +kernel
theorem dX11_greenOf_25 : decode cX11_greenOf 25 = .ok (.istore_n 2, 1) := by decide +kernel
theorem dX11_greenOf_26 : decode cX11_greenOf 26 = .ok (.iinc 3 1, 3) := by decide +kernel
theorem dX11_greenOf_29 : decode cX11_greenOf 29 = .ok (.goto (-25), 3) := by decide +kernel
theorem dX11_greenOf_32 : decode cX11_greenOf 32 = .ok (.iload_n 2, 1) := by decide +kernel
theorem dX11_greenOf_33 : decode cX11_greenOf 33 = .ok (.ireturn, 1) := by decide +kernel
theorem dX11_inKilns_0 : decode cX11_inKilns 0 = .ok (.iconst 0, 1) := by decide +kernel
theorem dX11_inKilns_1 : decode cX11_inKilns 1 = .ok (.istore_n 2, 1) := by decide +kernel
theorem dX11_inKilns_2 : decode cX11_inKilns 2 = .ok (.iconst 0, 1) := by decide +kernel
theorem dX11_inKilns_3 : decode cX11_inKilns 3 = .ok (.istore_n 3, 1) := by decide +kernel
theorem dX11_inKilns_4 : decode cX11_inKilns 4 = .ok (.iload_n 3, 1) := by decide +kernel
theorem dX11_inKilns_5 : decode cX11_inKilns 5 = .ok (.aload_n 0, 1) := by decide +kernel
theorem dX11_inKilns_6 : decode cX11_inKilns 6 = .ok (.getfield 105, 3) := by decide +kernel
theorem dX11_inKilns_9 : decode cX11_inKilns 9 = .ok (.if_icmp .ge 54, 3) := by decide +kernel
theorem dX11_inKilns_12 : decode cX11_inKilns 12 = .ok (.iconst 0, 1) := by decide +kernel
theorem dX11_inKilns_13 : decode cX11_inKilns 13 = .ok (.istore 4, 2) := by decide +kernel
theorem dX11_inKilns_15 : decode cX11_inKilns 15 = .ok (.iload 4, 2) := by decide +kernel
theorem dX11_inKilns_17 : decode cX11_inKilns 17 = .ok (.aload_n 0, 1) := by decide +kernel
theorem dX11_inKilns_18 : decode cX11_inKilns 18 = .ok (.getfield 65, 3) := by decide +kernel
theorem dX11_inKilns_21 : decode cX11_inKilns 21 = .ok (.iload_n 3, 1) := by decide +kernel
theorem dX11_inKilns_22 : decode cX11_inKilns 22 = .ok (.iaload, 1) := by decide +kernel
theorem dX11_inKilns_23 : decode cX11_inKilns 23 = .ok (.if_icmp .ge 34, 3) := by decide +kernel
theorem dX11_inKilns_26 : decode cX11_inKilns 26 = .ok (.iload_n 2, 1) := by decide +kernel
theorem dX11_inKilns_27 : decode cX11_inKilns 27 = .ok (.aload_n 0, 1) := by decide +kernel
theorem dX11_inKilns_28 : decode cX11_inKilns 28 = .ok (.getfield 68, 3) := by decide +kernel
theorem dX11_inKilns_31 : decode cX11_inKilns 31 = .ok (.sipush 200, 3) := by decide +kernel
theorem dX11_inKilns_34 : decode cX11_inKilns 34 = .ok (.iload_n 3, 1) := by decide +kernel
theorem dX11_inKilns_35 : decode cX11_inKilns 35 = .ok (.imul, 1) := by decide +kernel
theorem dX11_inKilns_36 : decode cX11_inKilns 36 = .ok (.iload 4, 2) := by decide +kernel
theorem dX11_inKilns_38 : decode cX11_inKilns 38 = .ok (.iadd, 1) := by decide +kernel
theorem dX11_inKilns_39 : decode cX11_inKilns 39 = .ok (.iaload, 1) := by decide +kernel
theorem dX11_inKilns_40 : decode cX11_inKilns 40 = .ok (.iload_n 1, 1) := by decide +kernel
theorem dX11_inKilns_41 : decode cX11_inKilns 41 = .ok (.if_icmp .ne 7, 3) := by decide +kernel
theorem dX11_inKilns_44 : decode cX11_inKilns 44 = .ok (.iconst 1, 1) := by decide +kernel
theorem dX11_inKilns_45 : decode cX11_inKilns 45 = .ok (.goto 4, 3) := by decide +kernel
theorem dX11_inKilns_48 : decode cX11_inKilns 48 = .ok (.iconst 0, 1) := by decide +kernel
theorem dX11_inKilns_49 : decode cX11_inKilns 49 = .ok (.iadd, 1) := by decide +kernel
theorem dX11_inKilns_50 : decode cX11_inKilns 50 = .ok (.istore_n 2, 1) := by decide +kernel
theorem dX11_inKilns_51 : decode cX11_inKilns 51 = .ok (.iinc 4 1, 3) := by decide +kernel
theorem dX11_inKilns_54 : decode cX11_inKilns 54 = .ok (.goto (-39), 3) := by decide +kernel
theorem dX11_inKilns_57 : decode cX11_inKilns 57 = .ok (.iinc 3 1, 3) := by decide +kernel
theorem dX11_inKilns_60 : decode cX11_inKilns 60 = .ok (.goto (-56), 3) := by decide +kernel
theorem dX11_inKilns_63 : decode cX11_inKilns 63 = .ok (.iload_n 2, 1) := by decide +kernel
theorem dX11_inKilns_64 : decode cX11_inKilns 64 = .ok (.ireturn, 1) := by decide +kernel
theorem dX11_about_0 : decode cX11_about 0 = .ok (.aload_n 0, 1) := by decide +kernel
theorem dX11_about_1 : decode cX11_about 1 = .ok (.iload_n 1, 1) := by decide +kernel
theorem dX11_about_2 : decode cX11_about 2 = .ok (.invokevirtual 112, 3) := by decide +kernel
theorem dX11_about_5 : decode cX11_about 5 = .ok (.ifCond .ne 5, 3) := by decide +kernel
theorem dX11_about_8 : decode cX11_about 8 = .ok (.iconst (-1), 1) := by decide +kernel
theorem dX11_about_9 : decode cX11_about 9 = .ok (.ireturn, 1) := by decide +kernel
theorem dX11_about_10 : decode cX11_about 10 = .ok (.iload_n 2, 1) := by decide +kernel
theorem dX11_about_11 : decode cX11_about 11 = .ok (.tableswitch 77 0 5 #[37, 44, 51, 57, 63, 70], 37) := by decide +kernel
theorem dX11_about_48 : decode cX11_about 48 = .ok (.aload_n 0, 1) := by decide +kernel
theorem dX11_about_49 : decode cX11_about 49 = .ok (.getfield 13, 3) := by decide +kernel
theorem dX11_about_52 : decode cX11_about 52 = .ok (.iload_n 1, 1) := by decide +kernel
theorem dX11_about_53 : decode cX11_about 53 = .ok (.iaload, 1) := by decide +kernel
theorem dX11_about_54 : decode cX11_about 54 = .ok (.ireturn, 1) := by decide +kernel
theorem dX11_about_55 : decode cX11_about 55 = .ok (.aload_n 0, 1) := by decide +kernel
theorem dX11_about_56 : decode cX11_about 56 = .ok (.getfield 23, 3) := by decide +kernel
theorem dX11_about_59 : decode cX11_about 59 = .ok (.iload_n 1, 1) := by decide +kernel
theorem dX11_about_60 : decode cX11_about 60 = .ok (.iaload, 1) := by decide +kernel
theorem dX11_about_61 : decode cX11_about 61 = .ok (.ireturn, 1) := by decide +kernel
theorem dX11_about_62 : decode cX11_about 62 = .ok (.aload_n 0, 1) := by decide +kernel
theorem dX11_about_63 : decode cX11_about 63 = .ok (.iload_n 1, 1) := by decide +kernel
theorem dX11_about_64 : decode cX11_about 64 = .ok (.invokevirtual 172, 3) := by decide +kernel
theorem dX11_about_67 : decode cX11_about 67 = .ok (.ireturn, 1) := by decide +kernel
theorem dX11_about_68 : decode cX11_about 68 = .ok (.aload_n 0, 1) := by decide +kernel
theorem dX11_about_69 : decode cX11_about 69 = .ok (.iload_n 1, 1) := by decide +kernel
theorem dX11_about_70 : decode cX11_about 70 = .ok (.invokevirtual 175, 3) := by decide +kernel
theorem dX11_about_73 : decode cX11_about 73 = .ok (.ireturn, 1) := by decide +kernel
theorem dX11_about_74 : decode cX11_about 74 = .ok (.aload_n 0, 1) := by decide +kernel
theorem dX11_about_75 : decode cX11_about 75 = .ok (.getfield 26, 3) := by decide +kernel
theorem dX11_about_78 : decode cX11_about 78 = .ok (.iload_n 1, 1) := by decide +kernel
theorem dX11_about_79 : decode cX11_about 79 = .ok (.iaload, 1) := by decide +kernel
theorem dX11_about_80 : decode cX11_about 80 = .ok (.ireturn, 1) := by decide +kernel
theorem dX11_about_81 : decode cX11_about 81 = .ok (.aload_n 0, 1) := by decide +kernel
theorem dX11_about_82 : decode cX11_about 82 = .ok (.getfield 29, 3) := by decide +kernel
theorem dX11_about_85 : decode cX11_about 85 = .ok (.iload_n 1, 1) := by decide +kernel
theorem dX11_about_86 : decode cX11_about 86 = .ok (.iaload, 1) := by decide +kernel
theorem dX11_about_87 : decode cX11_about 87 = .ok (.ireturn, 1) := by decide +kernel
theorem dX11_about_88 : decode cX11_about 88 = .ok (.iconst (-1), 1) := by decide +kernel
theorem dX11_about_89 : decode cX11_about 89 = .ok (.ireturn, 1) := by decide +kernel
theorem dX11_tally_0 : decode cX11_tally 0 = .ok (.aload_n 0, 1) := by decide +kernel
theorem dX11_tally_1 : decode cX11_tally 1 = .ok (.iload_n 1, 1) := by decide +kernel
theorem dX11_tally_2 : decode cX11_tally 2 = .ok (.invokevirtual 108, 3) := by decide +kernel
theorem dX11_tally_5 : decode cX11_tally 5 = .ok (.ifCond .ne 6, 3) := by decide +kernel
theorem dX11_tally_8 : decode cX11_tally 8 = .ok (.bipush (-2), 2) := by decide +kernel
theorem dX11_tally_10 : decode cX11_tally 10 = .ok (.ireturn, 1) := by decide +kernel
theorem dX11_tally_11 : decode cX11_tally 11 = .ok (.iload_n 2, 1) := by decide +kernel
theorem dX11_tally_12 : decode cX11_tally 12 = .ok (.tableswitch 60 0 3 #[32, 39, 46, 53], 32) := by decide +kernel
theorem dX11_tally_44 : decode cX11_tally 44 = .ok (.aload_n 0, 1) := by decide +kernel
theorem dX11_tally_45 : decode cX11_tally 45 = .ok (.getfield 41, 3) := by decide +kernel
theorem dX11_tally_48 : decode cX11_tally 48 = .ok (.iload_n 1, 1) := by decide +kernel
theorem dX11_tally_49 : decode cX11_tally 49 = .ok (.iaload, 1) := by decide +kernel
theorem dX11_tally_50 : decode cX11_tally 50 = .ok (.ireturn, 1) := by decide +kernel
theorem dX11_tally_51 : decode cX11_tally 51 = .ok (.aload_n 0, 1) := by decide +kernel
theorem dX11_tally_52 : decode cX11_tally 52 = .ok (.getfield 44, 3) := by decide +kernel
theorem dX11_tally_55 : decode cX11_tally 55 = .ok (.iload_n 1, 1) := by decide +kernel
theorem dX11_tally_56 : decode cX11_tally 56 = .ok (.iaload, 1) := by decide +kernel
theorem dX11_tally_57 : decode cX11_tally 57 = .ok (.ireturn, 1) := by decide +kernel
theorem dX11_tally_58 : decode cX11_tally 58 = .ok (.aload_n 0, 1) := by decide +kernel
theorem dX11_tally_59 : decode cX11_tally 59 = .ok (.getfield 47, 3) := by decide +kernel
theorem dX11_tally_62 : decode cX11_tally 62 = .ok (.iload_n 1, 1) := by decide +kernel
theorem dX11_tally_63 : decode cX11_tally 63 = .ok (.iaload, 1) := by decide +kernel
theorem dX11_tally_64 : decode cX11_tally 64 = .ok (.ireturn, 1) := by decide +kernel
theorem dX11_tally_65 : decode cX11_tally 65 = .ok (.aload_n 0, 1) := by decide +kernel
theorem dX11_tally_66 : decode cX11_tally 66 = .ok (.getfield 38, 3) := by decide +kernel
theorem dX11_tally_69 : decode cX11_tally 69 = .ok (.iload_n 1, 1) := by decide +kernel
theorem dX11_tally_70 : decode cX11_tally 70 = .ok (.iaload, 1) := by decide +kernel
theorem dX11_tally_71 : decode cX11_tally 71 = .ok (.ireturn, 1) := by decide +kernel
theorem dX11_tally_72 : decode cX11_tally 72 = .ok (.bipush (-2), 2) := by decide +kernel
theorem dX11_tally_74 : decode cX11_tally 74 = .ok (.ireturn, 1) := by decide +kernel
theorem dX11_in_0 : decode cX11_in 0 = .ok (.aload_n 0, 1) := by decide +kernel
theorem dX11_in_1 : decode cX11_in 1 = .ok (.iload_n 1, 1) := by decide +kernel
theorem dX11_in_2 : decode cX11_in 2 = .ok (.invokevirtual 115, 3) := by decide +kernel
theorem dX11_in_5 : decode cX11_in 5 = .ok (.ifCond .ne 5, 3) := by decide +kernel
theorem dX11_in_8 : decode cX11_in 8 = .ok (.iconst (-1), 1) := by decide +kernel
theorem dX11_in_9 : decode cX11_in 9 = .ok (.ireturn, 1) := by decide +kernel
theorem dX11_in_10 : decode cX11_in 10 = .ok (.iconst 0, 1) := by decide +kernel
theorem dX11_in_11 : decode cX11_in 11 = .ok (.istore_n 3, 1) := by decide +kernel
theorem dX11_in_12 : decode cX11_in 12 = .ok (.iload_n 2, 1) := by decide +kernel
theorem dX11_in_13 : decode cX11_in 13 = .ok (.tableswitch 92 0 3 #[31, 38, 45, 52], 31) := by decide +kernel
theorem dX11_in_44 : decode cX11_in 44 = .ok (.aload_n 0, 1) := by decide +kernel
theorem dX11_in_45 : decode cX11_in 45 = .ok (.getfield 65, 3) := by decide +kernel
theorem dX11_in_48 : decode cX11_in 48 = .ok (.iload_n 1, 1) := by decide +kernel
theorem dX11_in_49 : decode cX11_in 49 = .ok (.iaload, 1) := by decide +kernel
theorem dX11_in_50 : decode cX11_in 50 = .ok (.ireturn, 1) := by decide +kernel
theorem dX11_in_51 : decode cX11_in 51 = .ok (.aload_n 0, 1) := by decide +kernel
theorem dX11_in_52 : decode cX11_in 52 = .ok (.getfield 62, 3) := by decide +kernel
theorem dX11_in_55 : decode cX11_in 55 = .ok (.iload_n 1, 1) := by decide +kernel
theorem dX11_in_56 : decode cX11_in 56 = .ok (.iaload, 1) := by decide +kernel
theorem dX11_in_57 : decode cX11_in 57 = .ok (.ireturn, 1) := by decide +kernel
theorem dX11_in_58 : decode cX11_in 58 = .ok (.aload_n 0, 1) := by decide +kernel
theorem dX11_in_59 : decode cX11_in 59 = .ok (.getfield 59, 3) := by decide +kernel
theorem dX11_in_62 : decode cX11_in 62 = .ok (.iload_n 1, 1) := by decide +kernel
theorem dX11_in_63 : decode cX11_in 63 = .ok (.iaload, 1) := by decide +kernel
theorem dX11_in_64 : decode cX11_in 64 = .ok (.ireturn, 1) := by decide +kernel
theorem dX11_in_65 : decode cX11_in 65 = .ok (.iconst 0, 1) := by decide +kernel
theorem dX11_in_66 : decode cX11_in 66 = .ok (.istore 4, 2) := by decide +kernel
theorem dX11_in_68 : decode cX11_in 68 = .ok (.iload 4, 2) := by decide +kernel
theorem dX11_in_70 : decode cX11_in 70 = .ok (.aload_n 0, 1) := by decide +kernel
theorem dX11_in_71 : decode cX11_in 71 = .ok (.getfield 65, 3) := by decide +kernel
theorem dX11_in_74 : decode cX11_in 74 = .ok (.iload_n 1, 1) := by decide +kernel
theorem dX11_in_75 : decode cX11_in 75 = .ok (.iaload, 1) := by decide +kernel
theorem dX11_in_76 : decode cX11_in 76 = .ok (.if_icmp .ge 27, 3) := by decide +kernel
theorem dX11_in_79 : decode cX11_in 79 = .ok (.iload_n 3, 1) := by decide +kernel
theorem dX11_in_80 : decode cX11_in 80 = .ok (.iconst 1, 1) := by decide +kernel
theorem dX11_in_81 : decode cX11_in 81 = .ok (.aload_n 0, 1) := by decide +kernel
theorem dX11_in_82 : decode cX11_in 82 = .ok (.getfield 68, 3) := by decide +kernel
theorem dX11_in_85 : decode cX11_in 85 = .ok (.sipush 200, 3) := by decide +kernel
theorem dX11_in_88 : decode cX11_in 88 = .ok (.iload_n 1, 1) := by decide +kernel
theorem dX11_in_89 : decode cX11_in 89 = .ok (.imul, 1) := by decide +kernel
theorem dX11_in_90 : decode cX11_in 90 = .ok (.iload 4, 2) := by decide +kernel
theorem dX11_in_92 : decode cX11_in 92 = .ok (.iadd, 1) := by decide +kernel
theorem dX11_in_93 : decode cX11_in 93 = .ok (.iaload, 1) := by decide +kernel
theorem dX11_in_94 : decode cX11_in 94 = .ok (.ishl, 1) := by decide +kernel
theorem dX11_in_95 : decode cX11_in 95 = .ok (.ior, 1) := by decide +kernel
theorem dX11_in_96 : decode cX11_in 96 = .ok (.istore_n 3, 1) := by decide +kernel
theorem dX11_in_97 : decode cX11_in 97 = .ok (.iinc 4 1, 3) := by decide +kernel
theorem dX11_in_100 : decode cX11_in 100 = .ok (.goto (-32), 3) := by decide +kernel
theorem dX11_in_103 : decode cX11_in 103 = .ok (.iload_n 3, 1) := by decide +kernel
theorem dX11_in_104 : decode cX11_in 104 = .ok (.ireturn, 1) := by decide +kernel
theorem dX11_in_105 : decode cX11_in 105 = .ok (.iconst (-1), 1) := by decide +kernel
theorem dX11_in_106 : decode cX11_in 106 = .ok (.ireturn, 1) := by decide +kernel
theorem dX11_green_0 : decode cX11_green 0 = .ok (.iload_n 1, 1) := by decide +kernel
theorem dX11_green_1 : decode cX11_green 1 = .ok (.iconst 0, 1) := by decide +kernel
theorem dX11_green_2 : decode cX11_green 2 = .ok (.bipush 23, 2) := by decide +kernel
theorem dX11_green_4 : decode cX11_green 4 = .ok (.invokestatic 98, 3) := by decide +kernel
theorem dX11_green_7 : decode cX11_green 7 = .ok (.ifCond .ne 5, 3) := by decide +kernel
theorem dX11_green_10 : decode cX11_green 10 = .ok (.iconst (-1), 1) := by decide +kernel
theorem dX11_green_11 : decode cX11_green 11 = .ok (.ireturn, 1) := by decide +kernel
theorem dX11_green_12 : decode cX11_green 12 = .ok (.aload_n 0, 1) := by decide +kernel
theorem dX11_green_13 : decode cX11_green 13 = .ok (.getfield 92, 3) := by decide +kernel
theorem dX11_green_16 : decode cX11_green 16 = .ok (.iconst 1, 1) := by decide +kernel
theorem dX11_green_17 : decode cX11_green 17 = .ok (.isub, 1) := by decide +kernel
theorem dX11_green_18 : decode cX11_green 18 = .ok (.iload_n 1, 1) := by decide +kernel
theorem dX11_green_19 : decode cX11_green 19 = .ok (.isub, 1) := by decide +kernel
theorem dX11_green_20 : decode cX11_green 20 = .ok (.istore_n 2, 1) := by decide +kernel
theorem dX11_green_21 : decode cX11_green 21 = .ok (.iconst 0, 1) := by decide +kernel
theorem dX11_green_22 : decode cX11_green 22 = .ok (.istore_n 3, 1) := by decide +kernel
theorem dX11_green_23 : decode cX11_green 23 = .ok (.iconst 0, 1) := by decide +kernel
theorem dX11_green_24 : decode cX11_green 24 = .ok (.istore 4, 2) := by decide +kernel
theorem dX11_green_26 : decode cX11_green 26 = .ok (.iload 4, 2) := by decide +kernel
theorem dX11_green_28 : decode cX11_green 28 = .ok (.bipush 6, 2) := by decide +kernel
theorem dX11_green_30 : decode cX11_green 30 = .ok (.if_icmp .ge 28, 3) := by decide +kernel
theorem dX11_green_33 : decode cX11_green 33 = .ok (.iload_n 2, 1) := by decide +kernel
theorem dX11_green_34 : decode cX11_green 34 = .ok (.ifCond .lt 24, 3) := by decide +kernel
theorem dX11_green_37 : decode cX11_green 37 = .ok (.iload_n 3, 1) := by decide +kernel
theorem dX11_green_38 : decode cX11_green 38 = .ok (.aload_n 0, 1) := by decide +kernel
theorem dX11_green_39 : decode cX11_green 39 = .ok (.getfield 50, 3) := by decide +kernel
theorem dX11_green_42 : decode cX11_green 42 = .ok (.bipush 6, 2) := by decide +kernel
theorem dX11_green_44 : decode cX11_green 44 = .ok (.iload_n 2, 1) := by decide +kernel
theorem dX11_green_45 : decode cX11_green 45 = .ok (.imul, 1) := by decide +kernel
theorem dX11_green_46 : decode cX11_green 46 = .ok (.iload 4, 2) := by decide +kernel
theorem dX11_green_48 : decode cX11_green 48 = .ok (.iadd, 1) := by decide +kernel
theorem dX11_green_49 : decode cX11_green 49 = .ok (.iaload, 1) := by decide +kernel
theorem dX11_green_50 : decode cX11_green 50 = .ok (.iadd, 1) := by decide +kernel
theorem dX11_green_51 : decode cX11_green 51 = .ok (.istore_n 3, 1) := by decide +kernel
theorem dX11_green_52 : decode cX11_green 52 = .ok (.iinc 4 1, 3) := by decide +kernel
theorem dX11_green_55 : decode cX11_green 55 = .ok (.goto (-29), 3) := by decide +kernel
theorem dX11_green_58 : decode cX11_green 58 = .ok (.iload_n 3, 1) := by decide +kernel
theorem dX11_green_59 : decode cX11_green 59 = .ok (.ireturn, 1) := by decide +kernel
theorem dX11_ledPockets_0 : decode cX11_ledPockets 0 = .ok (.aload_n 0, 1) := by decide +kernel
theorem dX11_ledPockets_1 : decode cX11_ledPockets 1 = .ok (.getfield 150, 3) := by decide +kernel
theorem dX11_ledPockets_4 : decode cX11_ledPockets 4 = .ok (.bipush 100, 2) := by decide +kernel
theorem dX11_ledPockets_6 : decode cX11_ledPockets 6 = .ok (.if_icmp .ge 10, 3) := by decide +kernel
theorem dX11_ledPockets_9 : decode cX11_ledPockets 9 = .ok (.aload_n 0, 1) := by decide +kernel
theorem dX11_ledPockets_10 : decode cX11_ledPockets 10 = .ok (.getfield 150, 3) := by decide +kernel
theorem dX11_ledPockets_13 : decode cX11_ledPockets 13 = .ok (.goto 5, 3) := by decide +kernel
theorem dX11_ledPockets_16 : decode cX11_ledPockets 16 = .ok (.bipush 100, 2) := by decide +kernel
theorem dX11_ledPockets_18 : decode cX11_ledPockets 18 = .ok (.ireturn, 1) := by decide +kernel
theorem dX11_pocket_0 : decode cX11_pocket 0 = .ok (.iload_n 1, 1) := by decide +kernel
theorem dX11_pocket_1 : decode cX11_pocket 1 = .ok (.iconst 0, 1) := by decide +kernel
theorem dX11_pocket_2 : decode cX11_pocket 2 = .ok (.aload_n 0, 1) := by decide +kernel
theorem dX11_pocket_3 : decode cX11_pocket 3 = .ok (.invokevirtual 178, 3) := by decide +kernel
theorem dX11_pocket_6 : decode cX11_pocket 6 = .ok (.iconst 1, 1) := by decide +kernel
theorem dX11_pocket_7 : decode cX11_pocket 7 = .ok (.isub, 1) := by decide +kernel
theorem dX11_pocket_8 : decode cX11_pocket 8 = .ok (.invokestatic 98, 3) := by decide +kernel
theorem dX11_pocket_11 : decode cX11_pocket 11 = .ok (.ifCond .ne 5, 3) := by decide +kernel
theorem dX11_pocket_14 : decode cX11_pocket 14 = .ok (.iconst (-1), 1) := by decide +kernel
theorem dX11_pocket_15 : decode cX11_pocket 15 = .ok (.ireturn, 1) := by decide +kernel
theorem dX11_pocket_16 : decode cX11_pocket 16 = .ok (.iload_n 2, 1) := by decide +kernel
theorem dX11_pocket_17 : decode cX11_pocket 17 = .ok (.tableswitch 52 0 2 #[27, 34, 41], 27) := by decide +kernel
theorem dX11_pocket_44 : decode cX11_pocket 44 = .ok (.aload_n 0, 1) := by decide +kernel
theorem dX11_pocket_45 : decode cX11_pocket 45 = .ok (.getfield 71, 3) := by decide +kernel
theorem dX11_pocket_48 : decode cX11_pocket 48 = .ok (.iload_n 1, 1) := by decide +kernel
theorem dX11_pocket_49 : decode cX11_pocket 49 = .ok (.iaload, 1) := by decide +kernel
theorem dX11_pocket_50 : decode cX11_pocket 50 = .ok (.ireturn, 1) := by decide +kernel
theorem dX11_pocket_51 : decode cX11_pocket 51 = .ok (.aload_n 0, 1) := by decide +kernel
theorem dX11_pocket_52 : decode cX11_pocket 52 = .ok (.getfield 74, 3) := by decide +kernel
theorem dX11_pocket_55 : decode cX11_pocket 55 = .ok (.iload_n 1, 1) := by decide +kernel
theorem dX11_pocket_56 : decode cX11_pocket 56 = .ok (.iaload, 1) := by decide +kernel
theorem dX11_pocket_57 : decode cX11_pocket 57 = .ok (.ireturn, 1) := by decide +kernel
theorem dX11_pocket_58 : decode cX11_pocket 58 = .ok (.aload_n 0, 1) := by decide +kernel
theorem dX11_pocket_59 : decode cX11_pocket 59 = .ok (.aload_n 0, 1) := by decide +kernel
theorem dX11_pocket_60 : decode cX11_pocket 60 = .ok (.getfield 74, 3) := by decide +kernel
theorem dX11_pocket_63 : decode cX11_pocket 63 = .ok (.iload_n 1, 1) := by decide +kernel
theorem dX11_pocket_64 : decode cX11_pocket 64 = .ok (.iaload, 1) := by decide +kernel
theorem dX11_pocket_65 : decode cX11_pocket 65 = .ok (.invokevirtual 182, 3) := by decide +kernel
theorem dX11_pocket_68 : decode cX11_pocket 68 = .ok (.ireturn, 1) := by decide +kernel
theorem dX11_pocket_69 : decode cX11_pocket 69 = .ok (.iconst (-1), 1) := by decide +kernel
theorem dX11_pocket_70 : decode cX11_pocket 70 = .ok (.ireturn, 1) := by decide +kernel
theorem dX11_count_0 : decode cX11_count 0 = .ok (.iconst 0, 1) := by decide +kernel
theorem dX11_count_1 : decode cX11_count 1 = .ok (.istore_n 2, 1) := by decide +kernel
theorem dX11_count_2 : decode cX11_count 2 = .ok (.iload_n 1, 1) := by decide +kernel
theorem dX11_count_3 : decode cX11_count 3 = .ok (.tableswitch 194 0 9 #[53, 58, 63, 68, 73, 78, 83, 114, 141, 167], 53) := by decide +kernel
theorem dX11_count_56 : decode cX11_count 56 = .ok (.aload_n 0, 1) := by decide +kernel
theorem dX11_count_57 : decode cX11_count 57 = .ok (.getfield 92, 3) := by decide +kernel
theorem dX11_count_60 : decode cX11_count 60 = .ok (.ireturn, 1) := by decide +kernel
theorem dX11_count_61 : decode cX11_count 61 = .ok (.aload_n 0, 1) := by decide +kernel
theorem dX11_count_62 : decode cX11_count 62 = .ok (.getfield 95, 3) := by decide +kernel
theorem dX11_count_65 : decode cX11_count 65 = .ok (.ireturn, 1) := by decide +kernel
theorem dX11_count_66 : decode cX11_count 66 = .ok (.aload_n 0, 1) := by decide +kernel
theorem dX11_count_67 : decode cX11_count 67 = .ok (.getfield 102, 3) := by decide +kernel
theorem dX11_count_70 : decode cX11_count 70 = .ok (.ireturn, 1) := by decide +kernel
theorem dX11_count_71 : decode cX11_count 71 = .ok (.aload_n 0, 1) := by decide +kernel
theorem dX11_count_72 : decode cX11_count 72 = .ok (.getfield 105, 3) := by decide +kernel
theorem dX11_count_75 : decode cX11_count 75 = .ok (.ireturn, 1) := by decide +kernel
theorem dX11_count_76 : decode cX11_count 76 = .ok (.aload_n 0, 1) := by decide +kernel
theorem dX11_count_77 : decode cX11_count 77 = .ok (.getfield 150, 3) := by decide +kernel
theorem dX11_count_80 : decode cX11_count 80 = .ok (.ireturn, 1) := by decide +kernel
theorem dX11_count_81 : decode cX11_count 81 = .ok (.aload_n 0, 1) := by decide +kernel
theorem dX11_count_82 : decode cX11_count 82 = .ok (.getfield 144, 3) := by decide +kernel
theorem dX11_count_85 : decode cX11_count 85 = .ok (.ireturn, 1) := by decide +kernel
theorem dX11_count_86 : decode cX11_count 86 = .ok (.iconst 0, 1) := by decide +kernel
theorem dX11_count_87 : decode cX11_count 87 = .ok (.istore_n 3, 1) := by decide +kernel
theorem dX11_count_88 : decode cX11_count 88 = .ok (.iload_n 3, 1) := by decide +kernel
theorem dX11_count_89 : decode cX11_count 89 = .ok (.aload_n 0, 1) := by decide +kernel
theorem dX11_count_90 : decode cX11_count 90 = .ok (.invokevirtual 178, 3) := by decide +kernel
theorem dX11_count_93 : decode cX11_count 93 = .ok (.if_icmp .ge 22, 3) := by decide +kernel
theorem dX11_count_96 : decode cX11_count 96 = .ok (.iload_n 2, 1) := by decide +kernel
theorem dX11_count_97 : decode cX11_count 97 = .ok (.aload_n 0, 1) := by decide +kernel
theorem dX11_count_98 : decode cX11_count 98 = .ok (.aload_n 0, 1) := by decide +kernel
theorem dX11_count_99 : decode cX11_count 99 = .ok (.getfield 74, 3) := by decide +kernel
theorem dX11_count_102 : decode cX11_count 102 = .ok (.iload_n 3, 1) := by decide +kernel
theorem dX11_count_103 : decode cX11_count 103 = .ok (.iaload, 1) := by decide +kernel
theorem dX11_count_104 : decode cX11_count 104 = .ok (.invokevirtual 182, 3) := by decide +kernel
theorem dX11_count_107 : decode cX11_count 107 = .ok (.iadd, 1) := by decide +kernel
theorem dX11_count_108 : decode cX11_count 108 = .ok (.istore_n 2, 1) := by decide +kernel
theorem dX11_count_109 : decode cX11_count 109 = .ok (.iinc 3 1, 3) := by decide +kernel
theorem dX11_count_112 : decode cX11_count 112 = .ok (.goto (-24), 3) := by decide +kernel
theorem dX11_count_115 : decode cX11_count 115 = .ok (.iload_n 2, 1) := by decide +kernel
theorem dX11_count_116 : decode cX11_count 116 = .ok (.ireturn, 1) := by decide +kernel
theorem dX11_count_117 : decode cX11_count 117 = .ok (.iconst 0, 1) := by decide +kernel
theorem dX11_count_118 : decode cX11_count 118 = .ok (.istore_n 3, 1) := by decide +kernel
theorem dX11_count_119 : decode cX11_count 119 = .ok (.iload_n 3, 1) := by decide +kernel
theorem dX11_count_120 : decode cX11_count 120 = .ok (.aload_n 0, 1) := by decide +kernel
theorem dX11_count_121 : decode cX11_count 121 = .ok (.getfield 95, 3) := by decide +kernel
theorem dX11_count_124 : decode cX11_count 124 = .ok (.if_icmp .ge 18, 3) := by decide +kernel
theorem dX11_count_127 : decode cX11_count 127 = .ok (.iload_n 2, 1) := by decide +kernel
theorem dX11_count_128 : decode cX11_count 128 = .ok (.aload_n 0, 1) := by decide +kernel
theorem dX11_count_129 : decode cX11_count 129 = .ok (.getfield 26, 3) := by decide +kernel
theorem dX11_count_132 : decode cX11_count 132 = .ok (.iload_n 3, 1) := by decide +kernel
theorem dX11_count_133 : decode cX11_count 133 = .ok (.iaload, 1) := by decide +kernel
theorem dX11_count_134 : decode cX11_count 134 = .ok (.iadd, 1) := by decide +kernel
theorem dX11_count_135 : decode cX11_count 135 = .ok (.istore_n 2, 1) := by decide +kernel
theorem dX11_count_136 : decode cX11_count 136 = .ok (.iinc 3 1, 3) := by decide +kernel
theorem dX11_count_139 : decode cX11_count 139 = .ok (.goto (-20), 3) := by decide +kernel
theorem dX11_count_142 : decode cX11_count 142 = .ok (.iload_n 2, 1) := by decide +kernel
theorem dX11_count_143 : decode cX11_count 143 = .ok (.ireturn, 1) := by decide +kernel
theorem dX11_count_144 : decode cX11_count 144 = .ok (.iconst 0, 1) := by decide +kernel
theorem dX11_count_145 : decode cX11_count 145 = .ok (.istore_n 3, 1) := by decide +kernel
theorem dX11_count_146 : decode cX11_count 146 = .ok (.iload_n 3, 1) := by decide +kernel
theorem dX11_count_147 : decode cX11_count 147 = .ok (.aload_n 0, 1) := by decide +kernel
theorem dX11_count_148 : decode cX11_count 148 = .ok (.getfield 95, 3) := by decide +kernel
theorem dX11_count_151 : decode cX11_count 151 = .ok (.if_icmp .ge 17, 3) := by decide +kernel
theorem dX11_count_154 : decode cX11_count 154 = .ok (.iload_n 2, 1) := by decide +kernel
theorem dX11_count_155 : decode cX11_count 155 = .ok (.aload_n 0, 1) := by decide +kernel
theorem dX11_count_156 : decode cX11_count 156 = .ok (.iload_n 3, 1) := by decide +kernel
theorem dX11_count_157 : decode cX11_count 157 = .ok (.invokevirtual 172, 3) := by decide +kernel
theorem dX11_count_160 : decode cX11_count 160 = .ok (.iadd, 1) := by decide +kernel
theorem dX11_count_161 : decode cX11_count 161 = .ok (.istore_n 2, 1) := by decide +kernel
theorem dX11_count_162 : decode cX11_count 162 = .ok (.iinc 3 1, 3) := by decide +kernel
theorem dX11_count_165 : decode cX11_count 165 = .ok (.goto (-19), 3) := by decide +kernel
theorem dX11_count_168 : decode cX11_count 168 = .ok (.iload_n 2, 1) := by decide +kernel
theorem dX11_count_169 : decode cX11_count 169 = .ok (.ireturn, 1) := by decide +kernel
theorem dX11_count_170 : decode cX11_count 170 = .ok (.iconst 0, 1) := by decide +kernel
theorem dX11_count_171 : decode cX11_count 171 = .ok (.istore_n 3, 1) := by decide +kernel
theorem dX11_count_172 : decode cX11_count 172 = .ok (.iload_n 3, 1) := by decide +kernel
theorem dX11_count_173 : decode cX11_count 173 = .ok (.aload_n 0, 1) := by decide +kernel
theorem dX11_count_174 : decode cX11_count 174 = .ok (.getfield 102, 3) := by decide +kernel
theorem dX11_count_177 : decode cX11_count 177 = .ok (.if_icmp .ge 18, 3) := by decide +kernel
theorem dX11_count_180 : decode cX11_count 180 = .ok (.iload_n 2, 1) := by decide +kernel
theorem dX11_count_181 : decode cX11_count 181 = .ok (.aload_n 0, 1) := by decide +kernel
theorem dX11_count_182 : decode cX11_count 182 = .ok (.getfield 47, 3) := by decide +kernel
theorem dX11_count_185 : decode cX11_count 185 = .ok (.iload_n 3, 1) := by decide +kernel
theorem dX11_count_186 : decode cX11_count 186 = .ok (.iaload, 1) := by decide +kernel
theorem dX11_count_187 : decode cX11_count 187 = .ok (.iadd, 1) := by decide +kernel
theorem dX11_count_188 : decode cX11_count 188 = .ok (.istore_n 2, 1) := by decide +kernel
theorem dX11_count_189 : decode cX11_count 189 = .ok (.iinc 3 1, 3) := by decide +kernel
theorem dX11_count_192 : decode cX11_count 192 = .ok (.goto (-20), 3) := by decide +kernel
theorem dX11_count_195 : decode cX11_count 195 = .ok (.iload_n 2, 1) := by decide +kernel
theorem dX11_count_196 : decode cX11_count 196 = .ok (.ireturn, 1) := by decide +kernel
theorem dX11_count_197 : decode cX11_count 197 = .ok (.iconst (-1), 1) := by decide +kernel
theorem dX11_count_198 : decode cX11_count 198 = .ok (.ireturn, 1) := by decide +kernel
theorem dX11_price_0 : decode cX11_price 0 = .ok (.iload_n 1, 1) := by decide +kernel
theorem dX11_price_1 : decode cX11_price 1 = .ok (.aload_n 0, 1) := by decide +kernel
theorem dX11_price_2 : decode cX11_price 2 = .ok (.getfield 92, 3) := by decide +kernel
theorem dX11_price_5 : decode cX11_price 5 = .ok (.sipush 480, 3) := by decide +kernel
theorem dX11_price_8 : decode cX11_price 8 = .ok (.invokestatic 98, 3) := by decide +kernel
theorem dX11_price_11 : decode cX11_price 11 = .ok (.ifCond .eq 13, 3) := by decide +kernel
theorem dX11_price_14 : decode cX11_price 14 = .ok (.iload_n 2, 1) := by decide +kernel
theorem dX11_price_15 : decode cX11_price 15 = .ok (.iconst 1, 1) := by decide +kernel
theorem dX11_price_16 : decode cX11_price 16 = .ok (.bipush 50, 2) := by decide +kernel
theorem dX11_price_18 : decode cX11_price 18 = .ok (.invokestatic 98, 3) := by decide +kernel
theorem dX11_price_21 : decode cX11_price 21 = .ok (.ifCond .ne 5, 3) := by decide +kernel
theorem dX11_price_24 : decode cX11_price 24 = .ok (.iconst (-1), 1) := by decide +kernel
theorem dX11_price_25 : decode cX11_price 25 = .ok (.ireturn, 1) := by decide +kernel
theorem dX11_price_26 : decode cX11_price 26 = .ok (.aload_n 0, 1) := by decide +kernel
theorem dX11_price_27 : decode cX11_price 27 = .ok (.getfield 130, 3) := by decide +kernel
theorem dX11_price_30 : decode cX11_price 30 = .ok (.bipush 20, 2) := by decide +kernel
theorem dX11_price_32 : decode cX11_price 32 = .ok (.if_icmp .ne 6, 3) := by decide +kernel
theorem dX11_price_35 : decode cX11_price 35 = .ok (.bipush (-3), 2) := by decide +kernel
theorem dX11_price_37 : decode cX11_price 37 = .ok (.ireturn, 1) := by decide +kernel
theorem dX11_price_38 : decode cX11_price 38 = .ok (.aload_n 0, 1) := by decide +kernel
theorem dX11_price_39 : decode cX11_price 39 = .ok (.getfield 77, 3) := by decide +kernel
theorem dX11_price_42 : decode cX11_price 42 = .ok (.aload_n 0, 1) := by decide +kernel
theorem dX11_price_43 : decode cX11_price 43 = .ok (.getfield 130, 3) := by decide +kernel
theorem dX11_price_46 : decode cX11_price 46 = .ok (.iload_n 1, 1) := by decide +kernel
theorem dX11_price_47 : decode cX11_price 47 = .ok (.iastore, 1) := by decide +kernel
theorem dX11_price_48 : decode cX11_price 48 = .ok (.aload_n 0, 1) := by decide +kernel
theorem dX11_price_49 : decode cX11_price 49 = .ok (.getfield 80, 3) := by decide +kernel
theorem dX11_price_52 : decode cX11_price 52 = .ok (.aload_n 0, 1) := by decide +kernel
theorem dX11_price_53 : decode cX11_price 53 = .ok (.getfield 130, 3) := by decide +kernel
theorem dX11_price_56 : decode cX11_price 56 = .ok (.iload_n 2, 1) := by decide +kernel
theorem dX11_price_57 : decode cX11_price 57 = .ok (.iastore, 1) := by decide +kernel
theorem dX11_price_58 : decode cX11_price 58 = .ok (.aload_n 0, 1) := by decide +kernel
theorem dX11_price_59 : decode cX11_price 59 = .ok (.dup, 1) := by decide +kernel
theorem dX11_price_60 : decode cX11_price 60 = .ok (.getfield 130, 3) := by decide +kernel
theorem dX11_price_63 : decode cX11_price 63 = .ok (.iconst 1, 1) := by decide +kernel
theorem dX11_price_64 : decode cX11_price 64 = .ok (.iadd, 1) := by decide +kernel
theorem dX11_price_65 : decode cX11_price 65 = .ok (.putfield 130, 3) := by decide +kernel
theorem dX11_price_68 : decode cX11_price 68 = .ok (.iconst 1, 1) := by decide +kernel
theorem dX11_price_69 : decode cX11_price 69 = .ok (.ireturn, 1) := by decide +kernel
theorem dX11_priced_0 : decode cX11_priced 0 = .ok (.iload_n 1, 1) := by decide +kernel
theorem dX11_priced_1 : decode cX11_priced 1 = .ok (.iconst 0, 1) := by decide +kernel
theorem dX11_priced_2 : decode cX11_priced 2 = .ok (.sipush 480, 3) := by decide +kernel
theorem dX11_priced_5 : decode cX11_priced 5 = .ok (.invokestatic 98, 3) := by decide +kernel
theorem dX11_priced_8 : decode cX11_priced 8 = .ok (.ifCond .eq 11, 3) := by decide +kernel
theorem dX11_priced_11 : decode cX11_priced 11 = .ok (.aload_n 0, 1) := by decide +kernel
theorem dX11_priced_12 : decode cX11_priced 12 = .ok (.iload_n 1, 1) := by decide +kernel
theorem dX11_priced_13 : decode cX11_priced 13 = .ok (.invokevirtual 140, 3) := by decide +kernel
theorem dX11_priced_16 : decode cX11_priced 16 = .ok (.goto 4, 3) := by decide +kernel
theorem dX11_priced_19 : decode cX11_priced 19 = .ok (.iconst (-1), 1) := by decide +kernel
theorem dX11_priced_20 : decode cX11_priced 20 = .ok (.ireturn, 1) := by decide +kernel
theorem dX11_act_0 : decode cX11_act 0 = .ok (.iload_n 1, 1) := by decide +kernel
theorem dX11_act_1 : decode cX11_act 1 = .ok (.iconst 0, 1) := by decide +kernel
theorem dX11_act_2 : decode cX11_act 2 = .ok (.bipush 40, 2) := by decide +kernel
theorem dX11_act_4 : decode cX11_act 4 = .ok (.invokestatic 98, 3) := by decide +kernel
theorem dX11_act_7 : decode cX11_act 7 = .ok (.ifCond .eq 13, 3) := by decide +kernel
theorem dX11_act_10 : decode cX11_act 10 = .ok (.iload_n 2, 1) := by decide +kernel
theorem dX11_act_11 : decode cX11_act 11 = .ok (.iconst 0, 1) := by decide +kernel
theorem dX11_act_12 : decode cX11_act 12 = .ok (.bipush 100, 2) := by decide +kernel
theorem dX11_act_14 : decode cX11_act 14 = .ok (.invokestatic 98, 3) := by decide +kernel
theorem dX11_act_17 : decode cX11_act 17 = .ok (.ifCond .ne 5, 3) := by decide +kernel
theorem dX11_act_20 : decode cX11_act 20 = .ok (.iconst (-1), 1) := by decide +kernel
theorem dX11_act_21 : decode cX11_act 21 = .ok (.ireturn, 1) := by decide +kernel
theorem dX11_act_22 : decode cX11_act 22 = .ok (.bipush 12, 2) := by decide +kernel
theorem dX11_act_24 : decode cX11_act 24 = .ok (.iload_n 1, 1) := by decide +kernel
theorem dX11_act_25 : decode cX11_act 25 = .ok (.imul, 1) := by decide +kernel
theorem dX11_act_26 : decode cX11_act 26 = .ok (.aload_n 0, 1) := by decide +kernel
theorem dX11_act_27 : decode cX11_act 27 = .ok (.getfield 92, 3) := by decide +kernel
theorem dX11_act_30 : decode cX11_act 30 = .ok (.if_icmp .gt 6, 3) := by decide +kernel
theorem dX11_act_33 : decode cX11_act 33 = .ok (.bipush (-2), 2) := by decide +kernel
theorem dX11_act_35 : decode cX11_act 35 = .ok (.ireturn, 1) := by decide +kernel
theorem dX11_act_36 : decode cX11_act 36 = .ok (.aload_n 0, 1) := by decide +kernel
theorem dX11_act_37 : decode cX11_act 37 = .ok (.getfield 133, 3) := by decide +kernel
theorem dX11_act_40 : decode cX11_act 40 = .ok (.bipush 20, 2) := by decide +kernel
theorem dX11_act_42 : decode cX11_act 42 = .ok (.if_icmp .ne 6, 3) := by decide +kernel
theorem dX11_act_45 : decode cX11_act 45 = .ok (.bipush (-3), 2) := by decide +kernel
theorem dX11_act_47 : decode cX11_act 47 = .ok (.ireturn, 1) := by decide +kernel
theorem dX11_act_48 : decode cX11_act 48 = .ok (.aload_n 0, 1) := by decide +kernel
theorem dX11_act_49 : decode cX11_act 49 = .ok (.getfield 83, 3) := by decide +kernel
theorem dX11_act_52 : decode cX11_act 52 = .ok (.aload_n 0, 1) := by decide +kernel
theorem dX11_act_53 : decode cX11_act 53 = .ok (.getfield 133, 3) := by decide +kernel
theorem dX11_act_56 : decode cX11_act 56 = .ok (.iload_n 1, 1) := by decide +kernel
theorem dX11_act_57 : decode cX11_act 57 = .ok (.iastore, 1) := by decide +kernel
theorem dX11_act_58 : decode cX11_act 58 = .ok (.aload_n 0, 1) := by decide +kernel
theorem dX11_act_59 : decode cX11_act 59 = .ok (.getfield 86, 3) := by decide +kernel
theorem dX11_act_62 : decode cX11_act 62 = .ok (.aload_n 0, 1) := by decide +kernel
theorem dX11_act_63 : decode cX11_act 63 = .ok (.getfield 133, 3) := by decide +kernel
theorem dX11_act_66 : decode cX11_act 66 = .ok (.iload_n 2, 1) := by decide +kernel
theorem dX11_act_67 : decode cX11_act 67 = .ok (.iastore, 1) := by decide +kernel
theorem dX11_act_68 : decode cX11_act 68 = .ok (.aload_n 0, 1) := by decide +kernel
theorem dX11_act_69 : decode cX11_act 69 = .ok (.dup, 1) := by decide +kernel
theorem dX11_act_70 : decode cX11_act 70 = .ok (.getfield 133, 3) := by decide +kernel
theorem dX11_act_73 : decode cX11_act 73 = .ok (.iconst 1, 1) := by decide +kernel
theorem dX11_act_74 : decode cX11_act 74 = .ok (.iadd, 1) := by decide +kernel
theorem dX11_act_75 : decode cX11_act 75 = .ok (.putfield 133, 3) := by decide +kernel
theorem dX11_act_78 : decode cX11_act 78 = .ok (.iconst 1, 1) := by decide +kernel
theorem dX11_act_79 : decode cX11_act 79 = .ok (.ireturn, 1) := by decide +kernel
theorem dX11_duty_0 : decode cX11_duty 0 = .ok (.iload_n 1, 1) := by decide +kernel
theorem dX11_duty_1 : decode cX11_duty 1 = .ok (.iconst 0, 1) := by decide +kernel
theorem dX11_duty_2 : decode cX11_duty 2 = .ok (.bipush 40, 2) := by decide +kernel
theorem dX11_duty_4 : decode cX11_duty 4 = .ok (.invokestatic 98, 3) := by decide +kernel
theorem dX11_duty_7 : decode cX11_duty 7 = .ok (.ifCond .eq 11, 3) := by decide +kernel
theorem dX11_duty_10 : decode cX11_duty 10 = .ok (.aload_n 0, 1) := by decide +kernel
theorem dX11_duty_11 : decode cX11_duty 11 = .ok (.iload_n 1, 1) := by decide +kernel
theorem dX11_duty_12 : decode cX11_duty 12 = .ok (.invokevirtual 182, 3) := by decide +kernel
theorem dX11_duty_15 : decode cX11_duty 15 = .ok (.goto 4, 3) := by decide +kernel
theorem dX11_duty_18 : decode cX11_duty 18 = .ok (.iconst (-1), 1) := by decide +kernel
theorem dX11_duty_19 : decode cX11_duty 19 = .ok (.ireturn, 1) := by decide +kernel
theorem dX11_bound_0 : decode cX11_bound 0 = .ok (.iconst 0, 1) := by decide +kernel
theorem dX11_bound_1 : decode cX11_bound 1 = .ok (.istore_n 1, 1) := by decide +kernel
theorem dX11_bound_2 : decode cX11_bound 2 = .ok (.iconst 0, 1) := by decide +kernel
theorem dX11_bound_3 : decode cX11_bound 3 = .ok (.istore_n 2, 1) := by decide +kernel
theorem dX11_bound_4 : decode cX11_bound 4 = .ok (.iload_n 2, 1) := by decide +kernel
theorem dX11_bound_5 : decode cX11_bound 5 = .ok (.aload_n 0, 1) := by decide +kernel
theorem dX11_bound_6 : decode cX11_bound 6 = .ok (.getfield 105, 3) := by decide +kernel
theorem dX11_bound_9 : decode cX11_bound 9 = .ok (.if_icmp .ge 49, 3) := by decide +kernel
theorem dX11_bound_12 : decode cX11_bound 12 = .ok (.aload_n 0, 1) := by decide +kernel
theorem dX11_bound_13 : decode cX11_bound 13 = .ok (.getfield 53, 3) := by decide +kernel
theorem dX11_bound_16 : decode cX11_bound 16 = .ok (.iload_n 2, 1) := by decide +kernel
theorem dX11_bound_17 : decode cX11_bound 17 = .ok (.iaload, 1) := by decide +kernel
theorem dX11_bound_18 : decode cX11_bound 18 = .ok (.aload_n 0, 1) := by decide +kernel
theorem dX11_bound_19 : decode cX11_bound 19 = .ok (.getfield 59, 3) := by decide +kernel
theorem dX11_bound_22 : decode cX11_bound 22 = .ok (.iload_n 2, 1) := by decide +kernel
theorem dX11_bound_23 : decode cX11_bound 23 = .ok (.iaload, 1) := by decide +kernel
theorem dX11_bound_24 : decode cX11_bound 24 = .ok (.invokestatic 126, 3) := by decide +kernel
theorem dX11_bound_27 : decode cX11_bound 27 = .ok (.istore_n 3, 1) := by decide +kernel
theorem dX11_bound_28 : decode cX11_bound 28 = .ok (.iload_n 1, 1) := by decide +kernel
theorem dX11_bound_29 : decode cX11_bound 29 = .ok (.iload_n 3, 1) := by decide +kernel
theorem dX11_bound_30 : decode cX11_bound 30 = .ok (.ifCond .ne 7, 3) := by decide +kernel
theorem dX11_bound_33 : decode cX11_bound 33 = .ok (.iconst 0, 1) := by decide +kernel
theorem dX11_bound_34 : decode cX11_bound 34 = .ok (.goto 16, 3) := by decide +kernel
theorem dX11_bound_37 : decode cX11_bound 37 = .ok (.aload_n 0, 1) := by decide +kernel
theorem dX11_bound_38 : decode cX11_bound 38 = .ok (.getfield 56, 3) := by decide +kernel
theorem dX11_bound_41 : decode cX11_bound 41 = .ok (.iload_n 2, 1) := by decide +kernel
theorem dX11_bound_42 : decode cX11_bound 42 = .ok (.iaload, 1) := by decide +kernel
theorem dX11_bound_43 : decode cX11_bound 43 = .ok (.bipush 59, 2) := by decide +kernel
theorem dX11_bound_45 : decode cX11_bound 45 = .ok (.iload_n 3, 1) := by decide +kernel
theorem dX11_bound_46 : decode cX11_bound 46 = .ok (.iadd, 1) := by decide +kernel
theorem dX11_bound_47 : decode cX11_bound 47 = .ok (.iload_n 3, 1) := by decide +kernel
theorem dX11_bound_48 : decode cX11_bound 48 = .ok (.idiv, 1) := by decide +kernel
theorem dX11_bound_49 : decode cX11_bound 49 = .ok (.idiv, 1) := by decide +kernel
theorem dX11_bound_50 : decode cX11_bound 50 = .ok (.iadd, 1) := by decide +kernel
theorem dX11_bound_51 : decode cX11_bound 51 = .ok (.istore_n 1, 1) := by decide +kernel
theorem dX11_bound_52 : decode cX11_bound 52 = .ok (.iinc 2 1, 3) := by decide +kernel
theorem dX11_bound_55 : decode cX11_bound 55 = .ok (.goto (-51), 3) := by decide +kernel
theorem dX11_bound_58 : decode cX11_bound 58 = .ok (.iload_n 1, 1) := by decide +kernel
theorem dX11_bound_59 : decode cX11_bound 59 = .ok (.ireturn, 1) := by decide +kernel
theorem dX11_picksBy_0 : decode cX11_picksBy 0 = .ok (.iconst 0, 1) := by decide +kernel
theorem dX11_picksBy_1 : decode cX11_picksBy 1 = .ok (.istore_n 3, 1) := by decide +kernel
theorem dX11_picksBy_2 : decode cX11_picksBy 2 = .ok (.iload_n 3, 1) := by decide +kernel
theorem dX11_picksBy_3 : decode cX11_picksBy 3 = .ok (.bipush 7, 2) := by decide +kernel
theorem dX11_picksBy_5 : decode cX11_picksBy 5 = .ok (.if_icmp .ge 16, 3) := by decide +kernel
theorem dX11_picksBy_8 : decode cX11_picksBy 8 = .ok (.aload_n 0, 1) := by decide +kernel
theorem dX11_picksBy_9 : decode cX11_picksBy 9 = .ok (.getfield 89, 3) := by decide +kernel
theorem dX11_picksBy_12 : decode cX11_picksBy 12 = .ok (.iload_n 3, 1) := by decide +kernel
theorem dX11_picksBy_13 : decode cX11_picksBy 13 = .ok (.iconst 0, 1) := by decide +kernel
theorem dX11_picksBy_14 : decode cX11_picksBy 14 = .ok (.iastore, 1) := by decide +kernel
theorem dX11_picksBy_15 : decode cX11_picksBy 15 = .ok (.iinc 3 1, 3) := by decide +kernel
theorem dX11_picksBy_18 : decode cX11_picksBy 18 = .ok (.goto (-16), 3) := by decide +kernel
theorem dX11_picksBy_21 : decode cX11_picksBy 21 = .ok (.iload_n 1, 1) := by decide +kernel
theorem dX11_picksBy_22 : decode cX11_picksBy 22 = .ok (.istore_n 3, 1) := by decide +kernel
theorem dX11_picksBy_23 : decode cX11_picksBy 23 = .ok (.iconst 0, 1) := by decide +kernel
theorem dX11_picksBy_24 : decode cX11_picksBy 24 = .ok (.istore 4, 2) := by decide +kernel
theorem dX11_picksBy_26 : decode cX11_picksBy 26 = .ok (.iload 4, 2) := by decide +kernel
theorem dX11_picksBy_28 : decode cX11_picksBy 28 = .ok (.aload_n 0, 1) := by decide +kernel
theorem dX11_picksBy_29 : decode cX11_picksBy 29 = .ok (.getfield 102, 3) := by decide +kernel
theorem dX11_picksBy_32 : decode cX11_picksBy 32 = .ok (.if_icmp .ge 46, 3) := by decide +kernel
theorem dX11_picksBy_35 : decode cX11_picksBy 35 = .ok (.iload_n 3, 1) := by decide +kernel
theorem dX11_picksBy_36 : decode cX11_picksBy 36 = .ok (.bipush 7, 2) := by decide +kernel
theorem dX11_picksBy_38 : decode cX11_picksBy 38 = .ok (.irem, 1) := by decide +kernel
theorem dX11_picksBy_39 : decode cX11_picksBy 39 = .ok (.aload_n 0, 1) := by decide +kernel
theorem dX11_picksBy_40 : decode cX11_picksBy 40 = .ok (.getfield 95, 3) := by decide +kernel
theorem dX11_picksBy_43 : decode cX11_picksBy 43 = .ok (.if_icmp .le 5, 3) := by decide +kernel
theorem dX11_picksBy_46 : decode cX11_picksBy 46 = .ok (.iconst (-1), 1) := by decide +kernel
theorem dX11_picksBy_47 : decode cX11_picksBy 47 = .ok (.ireturn, 1) := by decide +kernel
theorem dX11_picksBy_48 : decode cX11_picksBy 48 = .ok (.aload_n 0, 1) := by decide +kernel
theorem dX11_picksBy_49 : decode cX11_picksBy 49 = .ok (.getfield 89, 3) := by decide +kernel
theorem dX11_picksBy_52 : decode cX11_picksBy 52 = .ok (.iload_n 3, 1) := by decide +kernel
theorem dX11_picksBy_53 : decode cX11_picksBy 53 = .ok (.bipush 7, 2) := by decide +kernel
theorem dX11_picksBy_55 : decode cX11_picksBy 55 = .ok (.irem, 1) := by decide +kernel
theorem dX11_picksBy_56 : decode cX11_picksBy 56 = .ok (.dup2, 1) := by decide +kernel
theorem dX11_picksBy_57 : decode cX11_picksBy 57 = .ok (.iaload, 1) := by decide +kernel
theorem dX11_picksBy_58 : decode cX11_picksBy 58 = .ok (.aload_n 0, 1) := by decide +kernel
theorem dX11_picksBy_59 : decode cX11_picksBy 59 = .ok (.getfield 32, 3) := by decide +kernel
theorem dX11_picksBy_62 : decode cX11_picksBy 62 = .ok (.iload 4, 2) := by decide +kernel
theorem dX11_picksBy_64 : decode cX11_picksBy 64 = .ok (.iaload, 1) := by decide +kernel
theorem dX11_picksBy_65 : decode cX11_picksBy 65 = .ok (.iadd, 1) := by decide +kernel
theorem dX11_picksBy_66 : decode cX11_picksBy 66 = .ok (.iastore, 1) := by decide +kernel
theorem dX11_picksBy_67 : decode cX11_picksBy 67 = .ok (.iload_n 3, 1) := by decide +kernel
theorem dX11_picksBy_68 : decode cX11_picksBy 68 = .ok (.bipush 7, 2) := by decide +kernel
theorem dX11_picksBy_70 : decode cX11_picksBy 70 = .ok (.idiv, 1) := by decide +kernel
theorem dX11_picksBy_71 : decode cX11_picksBy 71 = .ok (.istore_n 3, 1) := by decide +kernel
theorem dX11_picksBy_72 : decode cX11_picksBy 72 = .ok (.iinc 4 1, 3) := by decide +kernel
theorem dX11_picksBy_75 : decode cX11_picksBy 75 = .ok (.goto (-49), 3) := by decide +kernel
theorem dX11_picksBy_78 : decode cX11_picksBy 78 = .ok (.iconst 0, 1) := by decide +kernel
theorem dX11_picksBy_79 : decode cX11_picksBy 79 = .ok (.istore 4, 2) := by decide +kernel
theorem dX11_picksBy_81 : decode cX11_picksBy 81 = .ok (.iconst 0, 1) := by decide +kernel
theorem dX11_picksBy_82 : decode cX11_picksBy 82 = .ok (.istore 5, 2) := by decide +kernel
theorem dX11_picksBy_84 : decode cX11_picksBy 84 = .ok (.iload 5, 2) := by decide +kernel
theorem dX11_picksBy_86 : decode cX11_picksBy 86 = .ok (.aload_n 0, 1) := by decide +kernel
theorem dX11_picksBy_87 : decode cX11_picksBy 87 = .ok (.getfield 95, 3) := by decide +kernel
theorem dX11_picksBy_90 : decode cX11_picksBy 90 = .ok (.if_icmp .ge 66, 3) := by decide +kernel
theorem dX11_picksBy_93 : decode cX11_picksBy 93 = .ok (.bipush 12, 2) := by decide +kernel
theorem dX11_picksBy_95 : decode cX11_picksBy 95 = .ok (.aload_n 0, 1) := by decide +kernel
theorem dX11_picksBy_96 : decode cX11_picksBy 96 = .ok (.getfield 89, 3) := by decide +kernel
theorem dX11_picksBy_99 : decode cX11_picksBy 99 = .ok (.iload 5, 2) := by decide +kernel
theorem dX11_picksBy_101 : decode cX11_picksBy 101 = .ok (.iconst 1, 1) := by decide +kernel
theorem dX11_picksBy_102 : decode cX11_picksBy 102 = .ok (.iadd, 1) := by decide +kernel
theorem dX11_picksBy_103 : decode cX11_picksBy 103 = .ok (.iaload, 1) := by decide +kernel
theorem dX11_picksBy_104 : decode cX11_picksBy 104 = .ok (.imul, 1) := by decide +kernel
theorem dX11_picksBy_105 : decode cX11_picksBy 105 = .ok (.istore 6, 2) := by decide +kernel
theorem dX11_picksBy_107 : decode cX11_picksBy 107 = .ok (.iload 4, 2) := by decide +kernel
theorem dX11_picksBy_109 : decode cX11_picksBy 109 = .ok (.aload_n 0, 1) := by decide +kernel
theorem dX11_picksBy_110 : decode cX11_picksBy 110 = .ok (.iload 5, 2) := by decide +kernel
theorem dX11_picksBy_112 : decode cX11_picksBy 112 = .ok (.iload_n 2, 1) := by decide +kernel
theorem dX11_picksBy_113 : decode cX11_picksBy 113 = .ok (.invokevirtual 136, 3) := by decide +kernel
theorem dX11_picksBy_116 : decode cX11_picksBy 116 = .ok (.ifCond .ne 7, 3) := by decide +kernel
theorem dX11_picksBy_119 : decode cX11_picksBy 119 = .ok (.iconst 0, 1) := by decide +kernel
theorem dX11_picksBy_120 : decode cX11_picksBy 120 = .ok (.goto 27, 3) := by decide +kernel
theorem dX11_picksBy_123 : decode cX11_picksBy 123 = .ok (.iload 6, 2) := by decide +kernel
theorem dX11_picksBy_125 : decode cX11_picksBy 125 = .ok (.aload_n 0, 1) := by decide +kernel
theorem dX11_picksBy_126 : decode cX11_picksBy 126 = .ok (.getfield 13, 3) := by decide +kernel
theorem dX11_picksBy_129 : decode cX11_picksBy 129 = .ok (.iload 5, 2) := by decide +kernel
theorem dX11_picksBy_131 : decode cX11_picksBy 131 = .ok (.iaload, 1) := by decide +kernel
theorem dX11_picksBy_132 : decode cX11_picksBy 132 = .ok (.if_icmp .ge 8, 3) := by decide +kernel
theorem dX11_picksBy_135 : decode cX11_picksBy 135 = .ok (.iload 6, 2) := by decide +kernel
theorem dX11_picksBy_137 : decode cX11_picksBy 137 = .ok (.goto 10, 3) := by decide +kernel
theorem dX11_picksBy_140 : decode cX11_picksBy 140 = .ok (.aload_n 0, 1) := by decide +kernel
theorem dX11_picksBy_141 : decode cX11_picksBy 141 = .ok (.getfield 13, 3) := by decide +kernel
theorem dX11_picksBy_144 : decode cX11_picksBy 144 = .ok (.iload 5, 2) := by decide +kernel
theorem dX11_picksBy_146 : decode cX11_picksBy 146 = .ok (.iaload, 1) := by decide +kernel
theorem dX11_picksBy_147 : decode cX11_picksBy 147 = .ok (.iadd, 1) := by decide +kernel
theorem dX11_picksBy_148 : decode cX11_picksBy 148 = .ok (.istore 4, 2) := by decide +kernel
theorem dX11_picksBy_150 : decode cX11_picksBy 150 = .ok (.iinc 5 1, 3) := by decide +kernel
theorem dX11_picksBy_153 : decode cX11_picksBy 153 = .ok (.goto (-69), 3) := by decide +kernel
theorem dX11_picksBy_156 : decode cX11_picksBy 156 = .ok (.iload 4, 2) := by decide +kernel
theorem dX11_picksBy_158 : decode cX11_picksBy 158 = .ok (.ireturn, 1) := by decide +kernel
theorem dX11_most_0 : decode cX11_most 0 = .ok (.iload_n 1, 1) := by decide +kernel
theorem dX11_most_1 : decode cX11_most 1 = .ok (.iconst 0, 1) := by decide +kernel
theorem dX11_most_2 : decode cX11_most 2 = .ok (.bipush 40, 2) := by decide +kernel
theorem dX11_most_4 : decode cX11_most 4 = .ok (.invokestatic 98, 3) := by decide +kernel
theorem dX11_most_7 : decode cX11_most 7 = .ok (.ifCond .eq 12, 3) := by decide +kernel
theorem dX11_most_10 : decode cX11_most 10 = .ok (.iload_n 2, 1) := by decide +kernel
theorem dX11_most_11 : decode cX11_most 11 = .ok (.iconst 0, 1) := by decide +kernel
theorem dX11_most_12 : decode cX11_most 12 = .ok (.iconst 1, 1) := by decide +kernel
theorem dX11_most_13 : decode cX11_most 13 = .ok (.invokestatic 98, 3) := by decide +kernel
theorem dX11_most_16 : decode cX11_most 16 = .ok (.ifCond .ne 5, 3) := by decide +kernel
theorem dX11_most_19 : decode cX11_most 19 = .ok (.iconst (-1), 1) := by decide +kernel
theorem dX11_most_20 : decode cX11_most 20 = .ok (.ireturn, 1) := by decide +kernel
theorem dX11_most_21 : decode cX11_most 21 = .ok (.iconst 1, 1) := by decide +kernel
theorem dX11_most_22 : decode cX11_most 22 = .ok (.istore_n 3, 1) := by decide +kernel
theorem dX11_most_23 : decode cX11_most 23 = .ok (.iconst 0, 1) := by decide +kernel
theorem dX11_most_24 : decode cX11_most 24 = .ok (.istore 4, 2) := by decide +kernel
theorem dX11_most_26 : decode cX11_most 26 = .ok (.iload 4, 2) := by decide +kernel
theorem dX11_most_28 : decode cX11_most 28 = .ok (.aload_n 0, 1) := by decide +kernel
theorem dX11_most_29 : decode cX11_most 29 = .ok (.getfield 102, 3) := by decide +kernel
theorem dX11_most_32 : decode cX11_most 32 = .ok (.if_icmp .ge 14, 3) := by decide +kernel
theorem dX11_most_35 : decode cX11_most 35 = .ok (.iload_n 3, 1) := by decide +kernel
theorem dX11_most_36 : decode cX11_most 36 = .ok (.bipush 7, 2) := by decide +kernel
theorem dX11_most_38 : decode cX11_most 38 = .ok (.imul, 1) := by decide +kernel
theorem dX11_most_39 : decode cX11_most 39 = .ok (.istore_n 3, 1) := by decide +kernel
theorem dX11_most_40 : decode cX11_most 40 = .ok (.iinc 4 1, 3) := by decide +kernel
theorem dX11_most_43 : decode cX11_most 43 = .ok (.goto (-17), 3) := by decide +kernel
theorem dX11_most_46 : decode cX11_most 46 = .ok (.iconst 0, 1) := by decide +kernel
theorem dX11_most_47 : decode cX11_most 47 = .ok (.istore 4, 2) := by decide +kernel
theorem dX11_most_49 : decode cX11_most 49 = .ok (.iconst 0, 1) := by decide +kernel
theorem dX11_most_50 : decode cX11_most 50 = .ok (.istore 5, 2) := by decide +kernel
theorem dX11_most_52 : decode cX11_most 52 = .ok (.iconst 1, 1) := by decide +kernel
theorem dX11_most_53 : decode cX11_most 53 = .ok (.istore 6, 2) := by decide +kernel
theorem dX11_most_55 : decode cX11_most 55 = .ok (.iload 6, 2) := by decide +kernel
theorem dX11_most_57 : decode cX11_most 57 = .ok (.iload_n 3, 1) := by decide +kernel
theorem dX11_most_58 : decode cX11_most 58 = .ok (.if_icmp .ge 50, 3) := by decide +kernel
theorem dX11_most_61 : decode cX11_most 61 = .ok (.aload_n 0, 1) := by decide +kernel
theorem dX11_most_62 : decode cX11_most 62 = .ok (.iload 6, 2) := by decide +kernel
theorem dX11_most_64 : decode cX11_most 64 = .ok (.iload_n 1, 1) := by decide +kernel
theorem dX11_most_65 : decode cX11_most 65 = .ok (.invokevirtual 185, 3) := by decide +kernel
theorem dX11_most_68 : decode cX11_most 68 = .ok (.istore 7, 2) := by decide +kernel
theorem dX11_most_70 : decode cX11_most 70 = .ok (.iload 7, 2) := by decide +kernel
theorem dX11_most_72 : decode cX11_most 72 = .ok (.iload 5, 2) := by decide +kernel
theorem dX11_most_74 : decode cX11_most 74 = .ok (.if_icmp .le 8, 3) := by decide +kernel
theorem dX11_most_77 : decode cX11_most 77 = .ok (.iload 6, 2) := by decide +kernel
theorem dX11_most_79 : decode cX11_most 79 = .ok (.goto 5, 3) := by decide +kernel
theorem dX11_most_82 : decode cX11_most 82 = .ok (.iload 4, 2) := by decide +kernel
theorem dX11_most_84 : decode cX11_most 84 = .ok (.istore 4, 2) := by decide +kernel
theorem dX11_most_86 : decode cX11_most 86 = .ok (.iload 7, 2) := by decide +kernel
theorem dX11_most_88 : decode cX11_most 88 = .ok (.iload 5, 2) := by decide +kernel
theorem dX11_most_90 : decode cX11_most 90 = .ok (.if_icmp .le 8, 3) := by decide +kernel
theorem dX11_most_93 : decode cX11_most 93 = .ok (.iload 7, 2) := by decide +kernel
theorem dX11_most_95 : decode cX11_most 95 = .ok (.goto 5, 3) := by decide +kernel
theorem dX11_most_98 : decode cX11_most 98 = .ok (.iload 5, 2) := by decide +kernel
theorem dX11_most_100 : decode cX11_most 100 = .ok (.istore 5, 2) := by decide +kernel
theorem dX11_most_102 : decode cX11_most 102 = .ok (.iinc 6 1, 3) := by decide +kernel
theorem dX11_most_105 : decode cX11_most 105 = .ok (.goto (-50), 3) := by decide +kernel
theorem dX11_most_108 : decode cX11_most 108 = .ok (.iload_n 2, 1) := by decide +kernel
theorem dX11_most_109 : decode cX11_most 109 = .ok (.ifCond .ne 8, 3) := by decide +kernel
theorem dX11_most_112 : decode cX11_most 112 = .ok (.iload 5, 2) := by decide +kernel
theorem dX11_most_114 : decode cX11_most 114 = .ok (.goto 5, 3) := by decide +kernel
theorem dX11_most_117 : decode cX11_most 117 = .ok (.iload 4, 2) := by decide +kernel
theorem dX11_most_119 : decode cX11_most 119 = .ok (.ireturn, 1) := by decide +kernel
theorem dX11_trace_0 : decode cX11_trace 0 = .ok (.aload_n 0, 1) := by decide +kernel
theorem dX11_trace_1 : decode cX11_trace 1 = .ok (.getfield 118, 3) := by decide +kernel
theorem dX11_trace_4 : decode cX11_trace 4 = .ok (.lreturn, 1) := by decide +kernel
