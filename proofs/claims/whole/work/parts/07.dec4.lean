theorem dX10_clash_116 : decode cX10_clash 116 = .ok (.iload 4, 2) := by decide +kernel
theorem dX10_clash_118 : decode cX10_clash 118 = .ok (.iconst 2, 1) := by decide +kernel
theorem dX10_clash_119 : decode cX10_clash 119 = .ok (.if_icmp .ne 10, 3) := by decide +kernel
theorem dX10_clash_122 : decode cX10_clash 122 = .ok (.aload_n 0, 1) := by decide +kernel
theorem dX10_clash_123 : decode cX10_clash 123 = .ok (.getfield 170, 3) := by decide +kernel
theorem dX10_clash_126 : decode cX10_clash 126 = .ok (.goto 7, 3) := by decide +kernel
theorem dX10_clash_129 : decode cX10_clash 129 = .ok (.aload_n 0, 1) := by decide +kernel
theorem dX10_clash_130 : decode cX10_clash 130 = .ok (.getfield 173, 3) := by decide +kernel
theorem dX10_clash_133 : decode cX10_clash 133 = .ok (.ireturn, 1) := by decide +kernel
theorem dX10_beginSearch_0 : decode cX10_beginSearch 0 = .ok (.aload_n 0, 1) := by decide +kernel
theorem dX10_beginSearch_1 : decode cX10_beginSearch 1 = .ok (.iload_n 1, 1) := by decide +kernel
theorem dX10_beginSearch_2 : decode cX10_beginSearch 2 = .ok (.putfield 183, 3) := by decide +kernel
theorem dX10_beginSearch_5 : decode cX10_beginSearch 5 = .ok (.aload_n 0, 1) := by decide +kernel
theorem dX10_beginSearch_6 : decode cX10_beginSearch 6 = .ok (.iload_n 2, 1) := by decide +kernel
theorem dX10_beginSearch_7 : decode cX10_beginSearch 7 = .ok (.putfield 186, 3) := by decide +kernel
theorem dX10_beginSearch_10 : decode cX10_beginSearch 10 = .ok (.aload_n 0, 1) := by decide +kernel
theorem dX10_beginSearch_11 : decode cX10_beginSearch 11 = .ok (.iload_n 3, 1) := by decide +kernel
theorem dX10_beginSearch_12 : decode cX10_beginSearch 12 = .ok (.putfield 189, 3) := by decide +kernel
theorem dX10_beginSearch_15 : decode cX10_beginSearch 15 = .ok (.aload_n 0, 1) := by decide +kernel
theorem dX10_beginSearch_16 : decode cX10_beginSearch 16 = .ok (.iconst 1, 1) := by decide +kernel
theorem dX10_beginSearch_17 : decode cX10_beginSearch 17 = .ok (.putfield 192, 3) := by decide +kernel
theorem dX10_beginSearch_20 : decode cX10_beginSearch 20 = .ok (.iconst 0, 1) := by decide +kernel
theorem dX10_beginSearch_21 : decode cX10_beginSearch 21 = .ok (.istore 4, 2) := by decide +kernel
theorem dX10_beginSearch_23 : decode cX10_beginSearch 23 = .ok (.iload 4, 2) := by decide +kernel
theorem dX10_beginSearch_25 : decode cX10_beginSearch 25 = .ok (.aload_n 0, 1) := by decide +kernel
theorem dX10_beginSearch_26 : decode cX10_beginSearch 26 = .ok (.getfield 122, 3) := by decide +kernel
theorem dX10_beginSearch_29 : decode cX10_beginSearch 29 = .ok (.if_icmp .ge 42, 3) := by decide +kernel
theorem dX10_beginSearch_32 : decode cX10_beginSearch 32 = .ok (.aload_n 0, 1) := by decide +kernel
theorem dX10_beginSearch_33 : decode cX10_beginSearch 33 = .ok (.getfield 195, 3) := by decide +kernel
theorem dX10_beginSearch_36 : decode cX10_beginSearch 36 = .ok (.ifCond .ne 35, 3) := by decide +kernel
theorem dX10_beginSearch_39 : decode cX10_beginSearch 39 = .ok (.iload_n 1, 1) := by decide +kernel
theorem dX10_beginSearch_40 : decode cX10_beginSearch 40 = .ok (.iload 4, 2) := by decide +kernel
theorem dX10_beginSearch_42 : decode cX10_beginSearch 42 = .ok (.invokestatic 150, 3) := by decide +kernel
theorem dX10_beginSearch_45 : decode cX10_beginSearch 45 = .ok (.ifCond .eq 20, 3) := by decide +kernel
theorem dX10_beginSearch_48 : decode cX10_beginSearch 48 = .ok (.aload_n 0, 1) := by decide +kernel
theorem dX10_beginSearch_49 : decode cX10_beginSearch 49 = .ok (.getfield 26, 3) := by decide +kernel
theorem dX10_beginSearch_52 : decode cX10_beginSearch 52 = .ok (.iload 4, 2) := by decide +kernel
theorem dX10_beginSearch_54 : decode cX10_beginSearch 54 = .ok (.iaload, 1) := by decide +kernel
theorem dX10_beginSearch_55 : decode cX10_beginSearch 55 = .ok (.iconst 5, 1) := by decide +kernel
theorem dX10_beginSearch_56 : decode cX10_beginSearch 56 = .ok (.if_icmp .ne 9, 3) := by decide +kernel
theorem dX10_beginSearch_59 : decode cX10_beginSearch 59 = .ok (.aload_n 0, 1) := by decide +kernel
theorem dX10_beginSearch_60 : decode cX10_beginSearch 60 = .ok (.bipush 10, 2) := by decide +kernel
theorem dX10_beginSearch_62 : decode cX10_beginSearch 62 = .ok (.putfield 192, 3) := by decide +kernel
theorem dX10_beginSearch_65 : decode cX10_beginSearch 65 = .ok (.iinc 4 1, 3) := by decide +kernel
theorem dX10_beginSearch_68 : decode cX10_beginSearch 68 = .ok (.goto (-45), 3) := by decide +kernel
theorem dX10_beginSearch_71 : decode cX10_beginSearch 71 = .ok (.aload_n 0, 1) := by decide +kernel
theorem dX10_beginSearch_72 : decode cX10_beginSearch 72 = .ok (.iconst 0, 1) := by decide +kernel
theorem dX10_beginSearch_73 : decode cX10_beginSearch 73 = .ok (.putfield 199, 3) := by decide +kernel
theorem dX10_beginSearch_76 : decode cX10_beginSearch 76 = .ok (.aload_n 0, 1) := by decide +kernel
theorem dX10_beginSearch_77 : decode cX10_beginSearch 77 = .ok (.iconst 0, 1) := by decide +kernel
theorem dX10_beginSearch_78 : decode cX10_beginSearch 78 = .ok (.putfield 202, 3) := by decide +kernel
theorem dX10_beginSearch_81 : decode cX10_beginSearch 81 = .ok (.aload_n 0, 1) := by decide +kernel
theorem dX10_beginSearch_82 : decode cX10_beginSearch 82 = .ok (.iconst 0, 1) := by decide +kernel
theorem dX10_beginSearch_83 : decode cX10_beginSearch 83 = .ok (.putfield 205, 3) := by decide +kernel
theorem dX10_beginSearch_86 : decode cX10_beginSearch 86 = .ok (.aload_n 0, 1) := by decide +kernel
theorem dX10_beginSearch_87 : decode cX10_beginSearch 87 = .ok (.iconst 0, 1) := by decide +kernel
theorem dX10_beginSearch_88 : decode cX10_beginSearch 88 = .ok (.putfield 208, 3) := by decide +kernel
theorem dX10_beginSearch_91 : decode cX10_beginSearch 91 = .ok (.return_, 1) := by decide +kernel
theorem dX10_look_0 : decode cX10_look 0 = .ok (.aload_n 0, 1) := by decide +kernel
theorem dX10_look_1 : decode cX10_look 1 = .ok (.aload_n 0, 1) := by decide +kernel
theorem dX10_look_2 : decode cX10_look 2 = .ok (.getfield 125, 3) := by decide +kernel
theorem dX10_look_5 : decode cX10_look 5 = .ok (.aload_n 0, 1) := by decide +kernel
theorem dX10_look_6 : decode cX10_look 6 = .ok (.getfield 192, 3) := by decide +kernel
theorem dX10_look_9 : decode cX10_look 9 = .ok (.iadd, 1) := by decide +kernel
theorem dX10_look_10 : decode cX10_look 10 = .ok (.sipush 20000, 3) := by decide +kernel
theorem dX10_look_13 : decode cX10_look 13 = .ok (.if_icmp .le 7, 3) := by decide +kernel
theorem dX10_look_16 : decode cX10_look 16 = .ok (.iconst 1, 1) := by decide +kernel
theorem dX10_look_17 : decode cX10_look 17 = .ok (.goto 4, 3) := by decide +kernel
theorem dX10_look_20 : decode cX10_look 20 = .ok (.iconst 0, 1) := by decide +kernel
theorem dX10_look_21 : decode cX10_look 21 = .ok (.putfield 208, 3) := by decide +kernel
theorem dX10_look_24 : decode cX10_look 24 = .ok (.aload_n 0, 1) := by decide +kernel
theorem dX10_look_25 : decode cX10_look 25 = .ok (.getfield 208, 3) := by decide +kernel
theorem dX10_look_28 : decode cX10_look 28 = .ok (.ifCond .ne 16, 3) := by decide +kernel
theorem dX10_look_31 : decode cX10_look 31 = .ok (.aload_n 0, 1) := by decide +kernel
theorem dX10_look_32 : decode cX10_look 32 = .ok (.dup, 1) := by decide +kernel
theorem dX10_look_33 : decode cX10_look 33 = .ok (.getfield 125, 3) := by decide +kernel
theorem dX10_look_36 : decode cX10_look 36 = .ok (.aload_n 0, 1) := by decide +kernel
theorem dX10_look_37 : decode cX10_look 37 = .ok (.getfield 192, 3) := by decide +kernel
theorem dX10_look_40 : decode cX10_look 40 = .ok (.iadd, 1) := by decide +kernel
theorem dX10_look_41 : decode cX10_look 41 = .ok (.putfield 125, 3) := by decide +kernel
theorem dX10_look_44 : decode cX10_look 44 = .ok (.aload_n 0, 1) := by decide +kernel
theorem dX10_look_45 : decode cX10_look 45 = .ok (.getfield 208, 3) := by decide +kernel
theorem dX10_look_48 : decode cX10_look 48 = .ok (.ifCond .ne 7, 3) := by decide +kernel
theorem dX10_look_51 : decode cX10_look 51 = .ok (.iconst 1, 1) := by decide +kernel
theorem dX10_look_52 : decode cX10_look 52 = .ok (.goto 4, 3) := by decide +kernel
theorem dX10_look_55 : decode cX10_look 55 = .ok (.iconst 0, 1) := by decide +kernel
theorem dX10_look_56 : decode cX10_look 56 = .ok (.ireturn, 1) := by decide +kernel
theorem dX10_keepsWay_0 : decode cX10_keepsWay 0 = .ok (.aload_n 0, 1) := by decide +kernel
theorem dX10_keepsWay_1 : decode cX10_keepsWay 1 = .ok (.getfield 195, 3) := by decide +kernel
theorem dX10_keepsWay_4 : decode cX10_keepsWay 4 = .ok (.ifCond .ne 20, 3) := by decide +kernel
theorem dX10_keepsWay_7 : decode cX10_keepsWay 7 = .ok (.aload_n 0, 1) := by decide +kernel
theorem dX10_keepsWay_8 : decode cX10_keepsWay 8 = .ok (.aload_n 0, 1) := by decide +kernel
theorem dX10_keepsWay_9 : decode cX10_keepsWay 9 = .ok (.getfield 183, 3) := by decide +kernel
theorem dX10_keepsWay_12 : decode cX10_keepsWay 12 = .ok (.aload_n 0, 1) := by decide +kernel
theorem dX10_keepsWay_13 : decode cX10_keepsWay 13 = .ok (.getfield 59, 3) := by decide +kernel
theorem dX10_keepsWay_16 : decode cX10_keepsWay 16 = .ok (.aload_n 0, 1) := by decide +kernel
theorem dX10_keepsWay_17 : decode cX10_keepsWay 17 = .ok (.getfield 199, 3) := by decide +kernel
theorem dX10_keepsWay_20 : decode cX10_keepsWay 20 = .ok (.invokevirtual 211, 3) := by decide +kernel
theorem dX10_keepsWay_23 : decode cX10_keepsWay 23 = .ok (.ireturn, 1) := by decide +kernel
theorem dX10_keepsWay_24 : decode cX10_keepsWay 24 = .ok (.iconst 1, 1) := by decide +kernel
theorem dX10_keepsWay_25 : decode cX10_keepsWay 25 = .ok (.istore_n 1, 1) := by decide +kernel
theorem dX10_keepsWay_26 : decode cX10_keepsWay 26 = .ok (.iconst 2, 1) := by decide +kernel
theorem dX10_keepsWay_27 : decode cX10_keepsWay 27 = .ok (.iload_n 1, 1) := by decide +kernel
theorem dX10_keepsWay_28 : decode cX10_keepsWay 28 = .ok (.imul, 1) := by decide +kernel
theorem dX10_keepsWay_29 : decode cX10_keepsWay 29 = .ok (.aload_n 0, 1) := by decide +kernel
theorem dX10_keepsWay_30 : decode cX10_keepsWay 30 = .ok (.getfield 199, 3) := by decide +kernel
theorem dX10_keepsWay_33 : decode cX10_keepsWay 33 = .ok (.if_icmp .gt 34, 3) := by decide +kernel
theorem dX10_keepsWay_36 : decode cX10_keepsWay 36 = .ok (.aload_n 0, 1) := by decide +kernel
theorem dX10_keepsWay_37 : decode cX10_keepsWay 37 = .ok (.getfield 59, 3) := by decide +kernel
theorem dX10_keepsWay_40 : decode cX10_keepsWay 40 = .ok (.aload_n 0, 1) := by decide +kernel
theorem dX10_keepsWay_41 : decode cX10_keepsWay 41 = .ok (.getfield 199, 3) := by decide +kernel
theorem dX10_keepsWay_44 : decode cX10_keepsWay 44 = .ok (.iconst 2, 1) := by decide +kernel
theorem dX10_keepsWay_45 : decode cX10_keepsWay 45 = .ok (.iload_n 1, 1) := by decide +kernel
theorem dX10_keepsWay_46 : decode cX10_keepsWay 46 = .ok (.imul, 1) := by decide +kernel
theorem dX10_keepsWay_47 : decode cX10_keepsWay 47 = .ok (.isub, 1) := by decide +kernel
theorem dX10_keepsWay_48 : decode cX10_keepsWay 48 = .ok (.aload_n 0, 1) := by decide +kernel
theorem dX10_keepsWay_49 : decode cX10_keepsWay 49 = .ok (.getfield 199, 3) := by decide +kernel
theorem dX10_keepsWay_52 : decode cX10_keepsWay 52 = .ok (.iload_n 1, 1) := by decide +kernel
theorem dX10_keepsWay_53 : decode cX10_keepsWay 53 = .ok (.invokestatic 128, 3) := by decide +kernel
theorem dX10_keepsWay_56 : decode cX10_keepsWay 56 = .ok (.ifCond .eq 5, 3) := by decide +kernel
theorem dX10_keepsWay_59 : decode cX10_keepsWay 59 = .ok (.iconst 0, 1) := by decide +kernel
theorem dX10_keepsWay_60 : decode cX10_keepsWay 60 = .ok (.ireturn, 1) := by decide +kernel
theorem dX10_keepsWay_61 : decode cX10_keepsWay 61 = .ok (.iinc 1 1, 3) := by decide +kernel
theorem dX10_keepsWay_64 : decode cX10_keepsWay 64 = .ok (.goto (-38), 3) := by decide +kernel
theorem dX10_keepsWay_67 : decode cX10_keepsWay 67 = .ok (.iconst 1, 1) := by decide +kernel
theorem dX10_keepsWay_68 : decode cX10_keepsWay 68 = .ok (.ireturn, 1) := by decide +kernel
theorem dX10_next_0 : decode cX10_next 0 = .ok (.aload_n 0, 1) := by decide +kernel
theorem dX10_next_1 : decode cX10_next 1 = .ok (.getfield 205, 3) := by decide +kernel
theorem dX10_next_4 : decode cX10_next 4 = .ok (.ifCond .ne 41, 3) := by decide +kernel
theorem dX10_next_7 : decode cX10_next 7 = .ok (.aload_n 0, 1) := by decide +kernel
theorem dX10_next_8 : decode cX10_next 8 = .ok (.iconst 1, 1) := by decide +kernel
theorem dX10_next_9 : decode cX10_next 9 = .ok (.putfield 205, 3) := by decide +kernel
theorem dX10_next_12 : decode cX10_next 12 = .ok (.aload_n 0, 1) := by decide +kernel
theorem dX10_next_13 : decode cX10_next 13 = .ok (.invokevirtual 215, 3) := by decide +kernel
theorem dX10_next_16 : decode cX10_next 16 = .ok (.ifCond .ne 5, 3) := by decide +kernel
theorem dX10_next_19 : decode cX10_next 19 = .ok (.iconst 0, 1) := by decide +kernel
theorem dX10_next_20 : decode cX10_next 20 = .ok (.ireturn, 1) := by decide +kernel
theorem dX10_next_21 : decode cX10_next 21 = .ok (.aload_n 0, 1) := by decide +kernel
theorem dX10_next_22 : decode cX10_next 22 = .ok (.getfield 189, 3) := by decide +kernel
theorem dX10_next_25 : decode cX10_next 25 = .ok (.ifCond .ne 5, 3) := by decide +kernel
theorem dX10_next_28 : decode cX10_next 28 = .ok (.iconst 1, 1) := by decide +kernel
theorem dX10_next_29 : decode cX10_next 29 = .ok (.ireturn, 1) := by decide +kernel
theorem dX10_next_30 : decode cX10_next 30 = .ok (.aload_n 0, 1) := by decide +kernel
theorem dX10_next_31 : decode cX10_next 31 = .ok (.getfield 59, 3) := by decide +kernel
theorem dX10_next_34 : decode cX10_next 34 = .ok (.iconst 0, 1) := by decide +kernel
theorem dX10_next_35 : decode cX10_next 35 = .ok (.iconst (-1), 1) := by decide +kernel
theorem dX10_next_36 : decode cX10_next 36 = .ok (.iastore, 1) := by decide +kernel
theorem dX10_next_37 : decode cX10_next 37 = .ok (.aload_n 0, 1) := by decide +kernel
theorem dX10_next_38 : decode cX10_next 38 = .ok (.iconst 1, 1) := by decide +kernel
theorem dX10_next_39 : decode cX10_next 39 = .ok (.putfield 199, 3) := by decide +kernel
theorem dX10_next_42 : decode cX10_next 42 = .ok (.goto 12, 3) := by decide +kernel
theorem dX10_next_45 : decode cX10_next 45 = .ok (.aload_n 0, 1) := by decide +kernel
theorem dX10_next_46 : decode cX10_next 46 = .ok (.getfield 189, 3) := by decide +kernel
theorem dX10_next_49 : decode cX10_next 49 = .ok (.ifCond .ne 5, 3) := by decide +kernel
theorem dX10_next_52 : decode cX10_next 52 = .ok (.iconst 0, 1) := by decide +kernel
theorem dX10_next_53 : decode cX10_next 53 = .ok (.ireturn, 1) := by decide +kernel
theorem dX10_next_54 : decode cX10_next 54 = .ok (.aload_n 0, 1) := by decide +kernel
theorem dX10_next_55 : decode cX10_next 55 = .ok (.getfield 199, 3) := by decide +kernel
theorem dX10_next_58 : decode cX10_next 58 = .ok (.ifCond .le 130, 3) := by decide +kernel
theorem dX10_next_61 : decode cX10_next 61 = .ok (.aload_n 0, 1) := by decide +kernel
theorem dX10_next_62 : decode cX10_next 62 = .ok (.getfield 59, 3) := by decide +kernel
theorem dX10_next_65 : decode cX10_next 65 = .ok (.aload_n 0, 1) := by decide +kernel
theorem dX10_next_66 : decode cX10_next 66 = .ok (.getfield 199, 3) := by decide +kernel
theorem dX10_next_69 : decode cX10_next 69 = .ok (.iconst 1, 1) := by decide +kernel
theorem dX10_next_70 : decode cX10_next 70 = .ok (.isub, 1) := by decide +kernel
theorem dX10_next_71 : decode cX10_next 71 = .ok (.dup2, 1) := by decide +kernel
theorem dX10_next_72 : decode cX10_next 72 = .ok (.iaload, 1) := by decide +kernel
theorem dX10_next_73 : decode cX10_next 73 = .ok (.iconst 1, 1) := by decide +kernel
theorem dX10_next_74 : decode cX10_next 74 = .ok (.iadd, 1) := by decide +kernel
theorem dX10_next_75 : decode cX10_next 75 = .ok (.iastore, 1) := by decide +kernel
theorem dX10_next_76 : decode cX10_next 76 = .ok (.aload_n 0, 1) := by decide +kernel
theorem dX10_next_77 : decode cX10_next 77 = .ok (.getfield 59, 3) := by decide +kernel
theorem dX10_next_80 : decode cX10_next 80 = .ok (.aload_n 0, 1) := by decide +kernel
theorem dX10_next_81 : decode cX10_next 81 = .ok (.getfield 199, 3) := by decide +kernel
theorem dX10_next_84 : decode cX10_next 84 = .ok (.iconst 1, 1) := by decide +kernel
theorem dX10_next_85 : decode cX10_next 85 = .ok (.isub, 1) := by decide +kernel
theorem dX10_next_86 : decode cX10_next 86 = .ok (.iaload, 1) := by decide +kernel
theorem dX10_next_87 : decode cX10_next 87 = .ok (.aload_n 0, 1) := by decide +kernel
theorem dX10_next_88 : decode cX10_next 88 = .ok (.getfield 186, 3) := by decide +kernel
theorem dX10_next_91 : decode cX10_next 91 = .ok (.if_icmp .ne 16, 3) := by decide +kernel
theorem dX10_next_94 : decode cX10_next 94 = .ok (.aload_n 0, 1) := by decide +kernel
theorem dX10_next_95 : decode cX10_next 95 = .ok (.dup, 1) := by decide +kernel
theorem dX10_next_96 : decode cX10_next 96 = .ok (.getfield 199, 3) := by decide +kernel
theorem dX10_next_99 : decode cX10_next 99 = .ok (.iconst 1, 1) := by decide +kernel
theorem dX10_next_100 : decode cX10_next 100 = .ok (.isub, 1) := by decide +kernel
theorem dX10_next_101 : decode cX10_next 101 = .ok (.putfield 199, 3) := by decide +kernel
theorem dX10_next_104 : decode cX10_next 104 = .ok (.goto (-50), 3) := by decide +kernel
theorem dX10_next_107 : decode cX10_next 107 = .ok (.aload_n 0, 1) := by decide +kernel
theorem dX10_next_108 : decode cX10_next 108 = .ok (.invokevirtual 215, 3) := by decide +kernel
theorem dX10_next_111 : decode cX10_next 111 = .ok (.ifCond .ne 5, 3) := by decide +kernel
theorem dX10_next_114 : decode cX10_next 114 = .ok (.iconst 0, 1) := by decide +kernel
theorem dX10_next_115 : decode cX10_next 115 = .ok (.ireturn, 1) := by decide +kernel
theorem dX10_next_116 : decode cX10_next 116 = .ok (.aload_n 0, 1) := by decide +kernel
theorem dX10_next_117 : decode cX10_next 117 = .ok (.invokevirtual 219, 3) := by decide +kernel
theorem dX10_next_120 : decode cX10_next 120 = .ok (.ifCond .ne 6, 3) := by decide +kernel
theorem dX10_next_123 : decode cX10_next 123 = .ok (.goto (-69), 3) := by decide +kernel
theorem dX10_next_126 : decode cX10_next 126 = .ok (.aload_n 0, 1) := by decide +kernel
theorem dX10_next_127 : decode cX10_next 127 = .ok (.aload_n 0, 1) := by decide +kernel
theorem dX10_next_128 : decode cX10_next 128 = .ok (.getfield 199, 3) := by decide +kernel
theorem dX10_next_131 : decode cX10_next 131 = .ok (.aload_n 0, 1) := by decide +kernel
theorem dX10_next_132 : decode cX10_next 132 = .ok (.getfield 202, 3) := by decide +kernel
theorem dX10_next_135 : decode cX10_next 135 = .ok (.if_icmp .le 10, 3) := by decide +kernel
theorem dX10_next_138 : decode cX10_next 138 = .ok (.aload_n 0, 1) := by decide +kernel
theorem dX10_next_139 : decode cX10_next 139 = .ok (.getfield 199, 3) := by decide +kernel
theorem dX10_next_142 : decode cX10_next 142 = .ok (.goto 7, 3) := by decide +kernel
theorem dX10_next_145 : decode cX10_next 145 = .ok (.aload_n 0, 1) := by decide +kernel
theorem dX10_next_146 : decode cX10_next 146 = .ok (.getfield 202, 3) := by decide +kernel
theorem dX10_next_149 : decode cX10_next 149 = .ok (.putfield 202, 3) := by decide +kernel
theorem dX10_next_152 : decode cX10_next 152 = .ok (.aload_n 0, 1) := by decide +kernel
theorem dX10_next_153 : decode cX10_next 153 = .ok (.getfield 199, 3) := by decide +kernel
theorem dX10_next_156 : decode cX10_next 156 = .ok (.aload_n 0, 1) := by decide +kernel
theorem dX10_next_157 : decode cX10_next 157 = .ok (.getfield 189, 3) := by decide +kernel
theorem dX10_next_160 : decode cX10_next 160 = .ok (.if_icmp .ne 5, 3) := by decide +kernel
theorem dX10_next_163 : decode cX10_next 163 = .ok (.iconst 1, 1) := by decide +kernel
theorem dX10_next_164 : decode cX10_next 164 = .ok (.ireturn, 1) := by decide +kernel
theorem dX10_next_165 : decode cX10_next 165 = .ok (.aload_n 0, 1) := by decide +kernel
theorem dX10_next_166 : decode cX10_next 166 = .ok (.getfield 59, 3) := by decide +kernel
theorem dX10_next_169 : decode cX10_next 169 = .ok (.aload_n 0, 1) := by decide +kernel
theorem dX10_next_170 : decode cX10_next 170 = .ok (.getfield 199, 3) := by decide +kernel
theorem dX10_next_173 : decode cX10_next 173 = .ok (.iconst (-1), 1) := by decide +kernel
theorem dX10_next_174 : decode cX10_next 174 = .ok (.iastore, 1) := by decide +kernel
theorem dX10_next_175 : decode cX10_next 175 = .ok (.aload_n 0, 1) := by decide +kernel
theorem dX10_next_176 : decode cX10_next 176 = .ok (.dup, 1) := by decide +kernel
theorem dX10_next_177 : decode cX10_next 177 = .ok (.getfield 199, 3) := by decide +kernel
theorem dX10_next_180 : decode cX10_next 180 = .ok (.iconst 1, 1) := by decide +kernel
theorem dX10_next_181 : decode cX10_next 181 = .ok (.iadd, 1) := by decide +kernel
theorem dX10_next_182 : decode cX10_next 182 = .ok (.putfield 199, 3) := by decide +kernel
theorem dX10_next_185 : decode cX10_next 185 = .ok (.goto (-131), 3) := by decide +kernel
theorem dX10_next_188 : decode cX10_next 188 = .ok (.iconst 0, 1) := by decide +kernel
theorem dX10_next_189 : decode cX10_next 189 = .ok (.ireturn, 1) := by decide +kernel
theorem dX10_maySearch_0 : decode cX10_maySearch 0 = .ok (.aload_n 0, 1) := by decide +kernel
theorem dX10_maySearch_1 : decode cX10_maySearch 1 = .ok (.aload_n 0, 1) := by decide +kernel
theorem dX10_maySearch_2 : decode cX10_maySearch 2 = .ok (.iload_n 1, 1) := by decide +kernel
theorem dX10_maySearch_3 : decode cX10_maySearch 3 = .ok (.invokevirtual 176, 3) := by decide +kernel
theorem dX10_maySearch_6 : decode cX10_maySearch 6 = .ok (.ifCond .eq 18, 3) := by decide +kernel
theorem dX10_maySearch_9 : decode cX10_maySearch 9 = .ok (.iload_n 2, 1) := by decide +kernel
theorem dX10_maySearch_10 : decode cX10_maySearch 10 = .ok (.iconst 1, 1) := by decide +kernel
theorem dX10_maySearch_11 : decode cX10_maySearch 11 = .ok (.if_icmp .lt 13, 3) := by decide +kernel
theorem dX10_maySearch_14 : decode cX10_maySearch 14 = .ok (.iload_n 2, 1) := by decide +kernel
theorem dX10_maySearch_15 : decode cX10_maySearch 15 = .ok (.bipush 8, 2) := by decide +kernel
theorem dX10_maySearch_17 : decode cX10_maySearch 17 = .ok (.if_icmp .gt 7, 3) := by decide +kernel
theorem dX10_maySearch_20 : decode cX10_maySearch 20 = .ok (.iconst 1, 1) := by decide +kernel
theorem dX10_maySearch_21 : decode cX10_maySearch 21 = .ok (.goto 4, 3) := by decide +kernel
theorem dX10_maySearch_24 : decode cX10_maySearch 24 = .ok (.iconst 0, 1) := by decide +kernel
theorem dX10_maySearch_25 : decode cX10_maySearch 25 = .ok (.iconst 1, 1) := by decide +kernel
theorem dX10_maySearch_26 : decode cX10_maySearch 26 = .ok (.invokevirtual 100, 3) := by decide +kernel
theorem dX10_maySearch_29 : decode cX10_maySearch 29 = .ok (.ireturn, 1) := by decide +kernel
theorem dX10_many_0 : decode cX10_many 0 = .ok (.aload_n 0, 1) := by decide +kernel
theorem dX10_many_1 : decode cX10_many 1 = .ok (.iconst 0, 1) := by decide +kernel
theorem dX10_many_2 : decode cX10_many 2 = .ok (.putfield 1, 3) := by decide +kernel
theorem dX10_many_5 : decode cX10_many 5 = .ok (.aload_n 0, 1) := by decide +kernel
theorem dX10_many_6 : decode cX10_many 6 = .ok (.iload_n 1, 1) := by decide +kernel
theorem dX10_many_7 : decode cX10_many 7 = .ok (.iload_n 2, 1) := by decide +kernel
theorem dX10_many_8 : decode cX10_many 8 = .ok (.invokevirtual 222, 3) := by decide +kernel
theorem dX10_many_11 : decode cX10_many 11 = .ok (.ifCond .eq 26, 3) := by decide +kernel
theorem dX10_many_14 : decode cX10_many 14 = .ok (.aload_n 0, 1) := by decide +kernel
theorem dX10_many_15 : decode cX10_many 15 = .ok (.iload_n 3, 1) := by decide +kernel
theorem dX10_many_16 : decode cX10_many 16 = .ok (.ifCond .lt 13, 3) := by decide +kernel
theorem dX10_many_19 : decode cX10_many 19 = .ok (.iload_n 3, 1) := by decide +kernel
theorem dX10_many_20 : decode cX10_many 20 = .ok (.bipush 60, 2) := by decide +kernel
theorem dX10_many_22 : decode cX10_many 22 = .ok (.if_icmp .gt 7, 3) := by decide +kernel
theorem dX10_many_25 : decode cX10_many 25 = .ok (.iconst 1, 1) := by decide +kernel
theorem dX10_many_26 : decode cX10_many 26 = .ok (.goto 4, 3) := by decide +kernel
theorem dX10_many_29 : decode cX10_many 29 = .ok (.iconst 0, 1) := by decide +kernel
theorem dX10_many_30 : decode cX10_many 30 = .ok (.iconst 1, 1) := by decide +kernel
theorem dX10_many_31 : decode cX10_many 31 = .ok (.invokevirtual 100, 3) := by decide +kernel
theorem dX10_many_34 : decode cX10_many 34 = .ok (.ifCond .ne 5, 3) := by decide +kernel
theorem dX10_many_37 : decode cX10_many 37 = .ok (.iconst 0, 1) := by decide +kernel
theorem dX10_many_38 : decode cX10_many 38 = .ok (.ireturn, 1) := by decide +kernel
theorem dX10_many_39 : decode cX10_many 39 = .ok (.aload_n 0, 1) := by decide +kernel
theorem dX10_many_40 : decode cX10_many 40 = .ok (.iconst 0, 1) := by decide +kernel
theorem dX10_many_41 : decode cX10_many 41 = .ok (.putfield 125, 3) := by decide +kernel
theorem dX10_many_44 : decode cX10_many 44 = .ok (.aload_n 0, 1) := by decide +kernel
theorem dX10_many_45 : decode cX10_many 45 = .ok (.iconst 0, 1) := by decide +kernel
theorem dX10_many_46 : decode cX10_many 46 = .ok (.putfield 195, 3) := by decide +kernel
theorem dX10_many_49 : decode cX10_many 49 = .ok (.aload_n 0, 1) := by decide +kernel
theorem dX10_many_50 : decode cX10_many 50 = .ok (.iload_n 1, 1) := by decide +kernel
theorem dX10_many_51 : decode cX10_many 51 = .ok (.iload_n 2, 1) := by decide +kernel
theorem dX10_many_52 : decode cX10_many 52 = .ok (.iload_n 3, 1) := by decide +kernel
theorem dX10_many_53 : decode cX10_many 53 = .ok (.invokevirtual 225, 3) := by decide +kernel
theorem dX10_many_56 : decode cX10_many 56 = .ok (.iconst 0, 1) := by decide +kernel
theorem dX10_many_57 : decode cX10_many 57 = .ok (.istore 4, 2) := by decide +kernel
theorem dX10_many_59 : decode cX10_many 59 = .ok (.aload_n 0, 1) := by decide +kernel
theorem dX10_many_60 : decode cX10_many 60 = .ok (.invokevirtual 229, 3) := by decide +kernel
theorem dX10_many_63 : decode cX10_many 63 = .ok (.ifCond .eq 9, 3) := by decide +kernel
theorem dX10_many_66 : decode cX10_many 66 = .ok (.iinc 4 1, 3) := by decide +kernel
theorem dX10_many_69 : decode cX10_many 69 = .ok (.goto (-10), 3) := by decide +kernel
theorem dX10_many_72 : decode cX10_many 72 = .ok (.aload_n 0, 1) := by decide +kernel
theorem dX10_many_73 : decode cX10_many 73 = .ok (.getfield 208, 3) := by decide +kernel
theorem dX10_many_76 : decode cX10_many 76 = .ok (.ifCond .eq 8, 3) := by decide +kernel
theorem dX10_many_79 : decode cX10_many 79 = .ok (.bipush (-2), 2) := by decide +kernel
theorem dX10_many_81 : decode cX10_many 81 = .ok (.goto 5, 3) := by decide +kernel
theorem dX10_many_84 : decode cX10_many 84 = .ok (.iload 4, 2) := by decide +kernel
theorem dX10_many_86 : decode cX10_many 86 = .ok (.ireturn, 1) := by decide +kernel
theorem dX10_find_0 : decode cX10_find 0 = .ok (.aload_n 0, 1) := by decide +kernel
theorem dX10_find_1 : decode cX10_find 1 = .ok (.iconst 0, 1) := by decide +kernel
theorem dX10_find_2 : decode cX10_find 2 = .ok (.putfield 1, 3) := by decide +kernel
theorem dX10_find_5 : decode cX10_find 5 = .ok (.aload_n 0, 1) := by decide +kernel
theorem dX10_find_6 : decode cX10_find 6 = .ok (.iload_n 1, 1) := by decide +kernel
theorem dX10_find_7 : decode cX10_find 7 = .ok (.iload_n 2, 1) := by decide +kernel
theorem dX10_find_8 : decode cX10_find 8 = .ok (.invokevirtual 222, 3) := by decide +kernel
theorem dX10_find_11 : decode cX10_find 11 = .ok (.ifCond .eq 40, 3) := by decide +kernel
theorem dX10_find_14 : decode cX10_find 14 = .ok (.aload_n 0, 1) := by decide +kernel
theorem dX10_find_15 : decode cX10_find 15 = .ok (.iload_n 3, 1) := by decide +kernel
theorem dX10_find_16 : decode cX10_find 16 = .ok (.ifCond .lt 13, 3) := by decide +kernel
theorem dX10_find_19 : decode cX10_find 19 = .ok (.iload_n 3, 1) := by decide +kernel
theorem dX10_find_20 : decode cX10_find 20 = .ok (.bipush 60, 2) := by decide +kernel
theorem dX10_find_22 : decode cX10_find 22 = .ok (.if_icmp .gt 7, 3) := by decide +kernel
theorem dX10_find_25 : decode cX10_find 25 = .ok (.iconst 1, 1) := by decide +kernel
theorem dX10_find_26 : decode cX10_find 26 = .ok (.goto 4, 3) := by decide +kernel
theorem dX10_find_29 : decode cX10_find 29 = .ok (.iconst 0, 1) := by decide +kernel
theorem dX10_find_30 : decode cX10_find 30 = .ok (.iconst 1, 1) := by decide +kernel
theorem dX10_find_31 : decode cX10_find 31 = .ok (.invokevirtual 100, 3) := by decide +kernel
theorem dX10_find_34 : decode cX10_find 34 = .ok (.ifCond .eq 17, 3) := by decide +kernel
theorem dX10_find_37 : decode cX10_find 37 = .ok (.aload_n 0, 1) := by decide +kernel
theorem dX10_find_38 : decode cX10_find 38 = .ok (.aload_n 0, 1) := by decide +kernel
theorem dX10_find_39 : decode cX10_find 39 = .ok (.iload 5, 2) := by decide +kernel
theorem dX10_find_41 : decode cX10_find 41 = .ok (.invokevirtual 107, 3) := by decide +kernel
theorem dX10_find_44 : decode cX10_find 44 = .ok (.iconst 2, 1) := by decide +kernel
theorem dX10_find_45 : decode cX10_find 45 = .ok (.invokevirtual 100, 3) := by decide +kernel
theorem dX10_find_48 : decode cX10_find 48 = .ok (.ifCond .ne 5, 3) := by decide +kernel
theorem dX10_find_51 : decode cX10_find 51 = .ok (.iconst 0, 1) := by decide +kernel
theorem dX10_find_52 : decode cX10_find 52 = .ok (.ireturn, 1) := by decide +kernel
theorem dX10_find_53 : decode cX10_find 53 = .ok (.iload 4, 2) := by decide +kernel
theorem dX10_find_55 : decode cX10_find 55 = .ok (.ifCond .ge 5, 3) := by decide +kernel
theorem dX10_find_58 : decode cX10_find 58 = .ok (.iconst 0, 1) := by decide +kernel
theorem dX10_find_59 : decode cX10_find 59 = .ok (.ireturn, 1) := by decide +kernel
theorem dX10_find_60 : decode cX10_find 60 = .ok (.aload_n 0, 1) := by decide +kernel
theorem dX10_find_61 : decode cX10_find 61 = .ok (.iconst 0, 1) := by decide +kernel
theorem dX10_find_62 : decode cX10_find 62 = .ok (.putfield 125, 3) := by decide +kernel
theorem dX10_find_65 : decode cX10_find 65 = .ok (.aload_n 0, 1) := by decide +kernel
theorem dX10_find_66 : decode cX10_find 66 = .ok (.iconst 0, 1) := by decide +kernel
theorem dX10_find_67 : decode cX10_find 67 = .ok (.putfield 195, 3) := by decide +kernel
theorem dX10_find_70 : decode cX10_find 70 = .ok (.aload_n 0, 1) := by decide +kernel
theorem dX10_find_71 : decode cX10_find 71 = .ok (.iload_n 1, 1) := by decide +kernel
theorem dX10_find_72 : decode cX10_find 72 = .ok (.iload_n 2, 1) := by decide +kernel
theorem dX10_find_73 : decode cX10_find 73 = .ok (.iload_n 3, 1) := by decide +kernel
theorem dX10_find_74 : decode cX10_find 74 = .ok (.invokevirtual 225, 3) := by decide +kernel
theorem dX10_find_77 : decode cX10_find 77 = .ok (.iconst 0, 1) := by decide +kernel
theorem dX10_find_78 : decode cX10_find 78 = .ok (.istore 6, 2) := by decide +kernel
theorem dX10_find_80 : decode cX10_find 80 = .ok (.aload_n 0, 1) := by decide +kernel
theorem dX10_find_81 : decode cX10_find 81 = .ok (.invokevirtual 229, 3) := by decide +kernel
theorem dX10_find_84 : decode cX10_find 84 = .ok (.ifCond .eq 29, 3) := by decide +kernel
theorem dX10_find_87 : decode cX10_find 87 = .ok (.iload 6, 2) := by decide +kernel
theorem dX10_find_89 : decode cX10_find 89 = .ok (.iload 4, 2) := by decide +kernel
theorem dX10_find_91 : decode cX10_find 91 = .ok (.if_icmp .ne 16, 3) := by decide +kernel
theorem dX10_find_94 : decode cX10_find 94 = .ok (.aload_n 0, 1) := by decide +kernel
theorem dX10_find_95 : decode cX10_find 95 = .ok (.iload 5, 2) := by decide +kernel
theorem dX10_find_97 : decode cX10_find 97 = .ok (.aload_n 0, 1) := by decide +kernel
theorem dX10_find_98 : decode cX10_find 98 = .ok (.getfield 59, 3) := by decide +kernel
theorem dX10_find_101 : decode cX10_find 101 = .ok (.iload_n 3, 1) := by decide +kernel
theorem dX10_find_102 : decode cX10_find 102 = .ok (.invokevirtual 232, 3) := by decide +kernel
theorem dX10_find_105 : decode cX10_find 105 = .ok (.iconst 1, 1) := by decide +kernel
theorem dX10_find_106 : decode cX10_find 106 = .ok (.ireturn, 1) := by decide +kernel
theorem dX10_find_107 : decode cX10_find 107 = .ok (.iinc 6 1, 3) := by decide +kernel
theorem dX10_find_110 : decode cX10_find 110 = .ok (.goto (-30), 3) := by decide +kernel
theorem dX10_find_113 : decode cX10_find 113 = .ok (.aload_n 0, 1) := by decide +kernel
theorem dX10_find_114 : decode cX10_find 114 = .ok (.getfield 208, 3) := by decide +kernel
theorem dX10_find_117 : decode cX10_find 117 = .ok (.ifCond .eq 8, 3) := by decide +kernel
theorem dX10_find_120 : decode cX10_find 120 = .ok (.bipush (-2), 2) := by decide +kernel
theorem dX10_find_122 : decode cX10_find 122 = .ok (.goto 4, 3) := by decide +kernel
theorem dX10_find_125 : decode cX10_find 125 = .ok (.iconst 0, 1) := by decide +kernel
theorem dX10_find_126 : decode cX10_find 126 = .ok (.ireturn, 1) := by decide +kernel
theorem dX10_rank_0 : decode cX10_rank 0 = .ok (.aload_n 0, 1) := by decide +kernel
theorem dX10_rank_1 : decode cX10_rank 1 = .ok (.iconst 0, 1) := by decide +kernel
theorem dX10_rank_2 : decode cX10_rank 2 = .ok (.putfield 1, 3) := by decide +kernel
theorem dX10_rank_5 : decode cX10_rank 5 = .ok (.aload_n 0, 1) := by decide +kernel
theorem dX10_rank_6 : decode cX10_rank 6 = .ok (.iload_n 1, 1) := by decide +kernel
theorem dX10_rank_7 : decode cX10_rank 7 = .ok (.iload_n 2, 1) := by decide +kernel
theorem dX10_rank_8 : decode cX10_rank 8 = .ok (.invokevirtual 222, 3) := by decide +kernel
theorem dX10_rank_11 : decode cX10_rank 11 = .ok (.ifCond .eq 14, 3) := by decide +kernel
theorem dX10_rank_14 : decode cX10_rank 14 = .ok (.aload_n 0, 1) := by decide +kernel
theorem dX10_rank_15 : decode cX10_rank 15 = .ok (.iload_n 3, 1) := by decide +kernel
theorem dX10_rank_16 : decode cX10_rank 16 = .ok (.iload 4, 2) := by decide +kernel
theorem dX10_rank_18 : decode cX10_rank 18 = .ok (.iconst 2, 1) := by decide +kernel
theorem dX10_rank_19 : decode cX10_rank 19 = .ok (.invokevirtual 111, 3) := by decide +kernel
theorem dX10_rank_22 : decode cX10_rank 22 = .ok (.ifCond .ne 5, 3) := by decide +kernel
theorem dX10_rank_25 : decode cX10_rank 25 = .ok (.iconst 0, 1) := by decide +kernel
theorem dX10_rank_26 : decode cX10_rank 26 = .ok (.ireturn, 1) := by decide +kernel
theorem dX10_rank_27 : decode cX10_rank 27 = .ok (.aload_n 0, 1) := by decide +kernel
theorem dX10_rank_28 : decode cX10_rank 28 = .ok (.iload_n 3, 1) := by decide +kernel
theorem dX10_rank_29 : decode cX10_rank 29 = .ok (.iload 4, 2) := by decide +kernel
theorem dX10_rank_31 : decode cX10_rank 31 = .ok (.invokevirtual 118, 3) := by decide +kernel
theorem dX10_rank_34 : decode cX10_rank 34 = .ok (.ifCond .ne 5, 3) := by decide +kernel
theorem dX10_rank_37 : decode cX10_rank 37 = .ok (.iconst (-1), 1) := by decide +kernel
theorem dX10_rank_38 : decode cX10_rank 38 = .ok (.ireturn, 1) := by decide +kernel
theorem dX10_rank_39 : decode cX10_rank 39 = .ok (.aload_n 0, 1) := by decide +kernel
theorem dX10_rank_40 : decode cX10_rank 40 = .ok (.getfield 115, 3) := by decide +kernel
theorem dX10_rank_43 : decode cX10_rank 43 = .ok (.istore 5, 2) := by decide +kernel
theorem dX10_rank_45 : decode cX10_rank 45 = .ok (.iconst 0, 1) := by decide +kernel
theorem dX10_rank_46 : decode cX10_rank 46 = .ok (.istore 6, 2) := by decide +kernel
theorem dX10_rank_48 : decode cX10_rank 48 = .ok (.iload 6, 2) := by decide +kernel
theorem dX10_rank_50 : decode cX10_rank 50 = .ok (.iload 5, 2) := by decide +kernel
theorem dX10_rank_52 : decode cX10_rank 52 = .ok (.if_icmp .ge 36, 3) := by decide +kernel
theorem dX10_rank_55 : decode cX10_rank 55 = .ok (.aload_n 0, 1) := by decide +kernel
theorem dX10_rank_56 : decode cX10_rank 56 = .ok (.getfield 62, 3) := by decide +kernel
theorem dX10_rank_59 : decode cX10_rank 59 = .ok (.iload 6, 2) := by decide +kernel
theorem dX10_rank_61 : decode cX10_rank 61 = .ok (.aload_n 0, 1) := by decide +kernel
theorem dX10_rank_62 : decode cX10_rank 62 = .ok (.getfield 23, 3) := by decide +kernel
theorem dX10_rank_65 : decode cX10_rank 65 = .ok (.iload 6, 2) := by decide +kernel
theorem dX10_rank_67 : decode cX10_rank 67 = .ok (.iaload, 1) := by decide +kernel
theorem dX10_rank_68 : decode cX10_rank 68 = .ok (.iastore, 1) := by decide +kernel
theorem dX10_rank_69 : decode cX10_rank 69 = .ok (.aload_n 0, 1) := by decide +kernel
theorem dX10_rank_70 : decode cX10_rank 70 = .ok (.getfield 23, 3) := by decide +kernel
theorem dX10_rank_73 : decode cX10_rank 73 = .ok (.iload 6, 2) := by decide +kernel
theorem dX10_rank_75 : decode cX10_rank 75 = .ok (.iaload, 1) := by decide +kernel
theorem dX10_rank_76 : decode cX10_rank 76 = .ok (.iload_n 2, 1) := by decide +kernel
theorem dX10_rank_77 : decode cX10_rank 77 = .ok (.if_icmp .lt 5, 3) := by decide +kernel
theorem dX10_rank_80 : decode cX10_rank 80 = .ok (.iconst (-1), 1) := by decide +kernel
theorem dX10_rank_81 : decode cX10_rank 81 = .ok (.ireturn, 1) := by decide +kernel
theorem dX10_rank_82 : decode cX10_rank 82 = .ok (.iinc 6 1, 3) := by decide +kernel
theorem dX10_rank_85 : decode cX10_rank 85 = .ok (.goto (-37), 3) := by decide +kernel
theorem dX10_rank_88 : decode cX10_rank 88 = .ok (.aload_n 0, 1) := by decide +kernel
theorem dX10_rank_89 : decode cX10_rank 89 = .ok (.iload_n 1, 1) := by decide +kernel
theorem dX10_rank_90 : decode cX10_rank 90 = .ok (.aload_n 0, 1) := by decide +kernel
theorem dX10_rank_91 : decode cX10_rank 91 = .ok (.getfield 62, 3) := by decide +kernel
theorem dX10_rank_94 : decode cX10_rank 94 = .ok (.iload 5, 2) := by decide +kernel
theorem dX10_rank_96 : decode cX10_rank 96 = .ok (.invokevirtual 179, 3) := by decide +kernel
theorem dX10_rank_99 : decode cX10_rank 99 = .ok (.aload_n 0, 1) := by decide +kernel
theorem dX10_rank_100 : decode cX10_rank 100 = .ok (.getfield 167, 3) := by decide +kernel
theorem dX10_rank_103 : decode cX10_rank 103 = .ok (.iconst (-1), 1) := by decide +kernel
theorem dX10_rank_104 : decode cX10_rank 104 = .ok (.if_icmp .eq 5, 3) := by decide +kernel
theorem dX10_rank_107 : decode cX10_rank 107 = .ok (.iconst (-1), 1) := by decide +kernel
theorem dX10_rank_108 : decode cX10_rank 108 = .ok (.ireturn, 1) := by decide +kernel
theorem dX10_rank_109 : decode cX10_rank 109 = .ok (.aload_n 0, 1) := by decide +kernel
theorem dX10_rank_110 : decode cX10_rank 110 = .ok (.iconst 0, 1) := by decide +kernel
theorem dX10_rank_111 : decode cX10_rank 111 = .ok (.putfield 125, 3) := by decide +kernel
theorem dX10_rank_114 : decode cX10_rank 114 = .ok (.aload_n 0, 1) := by decide +kernel
theorem dX10_rank_115 : decode cX10_rank 115 = .ok (.iconst 0, 1) := by decide +kernel
theorem dX10_rank_116 : decode cX10_rank 116 = .ok (.putfield 195, 3) := by decide +kernel
theorem dX10_rank_119 : decode cX10_rank 119 = .ok (.aload_n 0, 1) := by decide +kernel
theorem dX10_rank_120 : decode cX10_rank 120 = .ok (.iload_n 1, 1) := by decide +kernel
theorem dX10_rank_121 : decode cX10_rank 121 = .ok (.iload_n 2, 1) := by decide +kernel
theorem dX10_rank_122 : decode cX10_rank 122 = .ok (.iload 5, 2) := by decide +kernel
theorem dX10_rank_124 : decode cX10_rank 124 = .ok (.invokevirtual 225, 3) := by decide +kernel
theorem dX10_rank_127 : decode cX10_rank 127 = .ok (.iconst 0, 1) := by decide +kernel
theorem dX10_rank_128 : decode cX10_rank 128 = .ok (.istore 6, 2) := by decide +kernel
theorem dX10_rank_130 : decode cX10_rank 130 = .ok (.aload_n 0, 1) := by decide +kernel
theorem dX10_rank_131 : decode cX10_rank 131 = .ok (.invokevirtual 229, 3) := by decide +kernel
theorem dX10_rank_134 : decode cX10_rank 134 = .ok (.ifCond .eq 65, 3) := by decide +kernel
theorem dX10_rank_137 : decode cX10_rank 137 = .ok (.iconst 1, 1) := by decide +kernel
theorem dX10_rank_138 : decode cX10_rank 138 = .ok (.istore 7, 2) := by decide +kernel
theorem dX10_rank_140 : decode cX10_rank 140 = .ok (.iconst 0, 1) := by decide +kernel
theorem dX10_rank_141 : decode cX10_rank 141 = .ok (.istore 8, 2) := by decide +kernel
theorem dX10_rank_143 : decode cX10_rank 143 = .ok (.iload 8, 2) := by decide +kernel
theorem dX10_rank_145 : decode cX10_rank 145 = .ok (.iload 5, 2) := by decide +kernel
theorem dX10_rank_147 : decode cX10_rank 147 = .ok (.if_icmp .ge 38, 3) := by decide +kernel
theorem dX10_rank_150 : decode cX10_rank 150 = .ok (.iload 7, 2) := by decide +kernel
theorem dX10_rank_152 : decode cX10_rank 152 = .ok (.ifCond .eq 33, 3) := by decide +kernel
theorem dX10_rank_155 : decode cX10_rank 155 = .ok (.aload_n 0, 1) := by decide +kernel
theorem dX10_rank_156 : decode cX10_rank 156 = .ok (.getfield 59, 3) := by decide +kernel
theorem dX10_rank_159 : decode cX10_rank 159 = .ok (.iload 8, 2) := by decide +kernel
theorem dX10_rank_161 : decode cX10_rank 161 = .ok (.iaload, 1) := by decide +kernel
theorem dX10_rank_162 : decode cX10_rank 162 = .ok (.aload_n 0, 1) := by decide +kernel
theorem dX10_rank_163 : decode cX10_rank 163 = .ok (.getfield 62, 3) := by decide +kernel
theorem dX10_rank_166 : decode cX10_rank 166 = .ok (.iload 8, 2) := by decide +kernel
theorem dX10_rank_168 : decode cX10_rank 168 = .ok (.iaload, 1) := by decide +kernel
theorem dX10_rank_169 : decode cX10_rank 169 = .ok (.if_icmp .ne 7, 3) := by decide +kernel
theorem dX10_rank_172 : decode cX10_rank 172 = .ok (.iconst 1, 1) := by decide +kernel
theorem dX10_rank_173 : decode cX10_rank 173 = .ok (.goto 4, 3) := by decide +kernel
theorem dX10_rank_176 : decode cX10_rank 176 = .ok (.iconst 0, 1) := by decide +kernel
theorem dX10_rank_177 : decode cX10_rank 177 = .ok (.istore 7, 2) := by decide +kernel
theorem dX10_rank_179 : decode cX10_rank 179 = .ok (.iinc 8 1, 3) := by decide +kernel
theorem dX10_rank_182 : decode cX10_rank 182 = .ok (.goto (-39), 3) := by decide +kernel
theorem dX10_rank_185 : decode cX10_rank 185 = .ok (.iload 7, 2) := by decide +kernel
theorem dX10_rank_187 : decode cX10_rank 187 = .ok (.ifCond .eq 6, 3) := by decide +kernel
theorem dX10_rank_190 : decode cX10_rank 190 = .ok (.iload 6, 2) := by decide +kernel
theorem dX10_rank_192 : decode cX10_rank 192 = .ok (.ireturn, 1) := by decide +kernel
theorem dX10_rank_193 : decode cX10_rank 193 = .ok (.iinc 6 1, 3) := by decide +kernel
theorem dX10_rank_196 : decode cX10_rank 196 = .ok (.goto (-66), 3) := by decide +kernel
theorem dX10_rank_199 : decode cX10_rank 199 = .ok (.bipush (-2), 2) := by decide +kernel
theorem dX10_rank_201 : decode cX10_rank 201 = .ok (.ireturn, 1) := by decide +kernel
theorem dX10_longest_0 : decode cX10_longest 0 = .ok (.aload_n 0, 1) := by decide +kernel
theorem dX10_longest_1 : decode cX10_longest 1 = .ok (.iconst 0, 1) := by decide +kernel
theorem dX10_longest_2 : decode cX10_longest 2 = .ok (.putfield 1, 3) := by decide +kernel
theorem dX10_longest_5 : decode cX10_longest 5 = .ok (.aload_n 0, 1) := by decide +kernel
theorem dX10_longest_6 : decode cX10_longest 6 = .ok (.iload_n 1, 1) := by decide +kernel
theorem dX10_longest_7 : decode cX10_longest 7 = .ok (.iload_n 2, 1) := by decide +kernel
theorem dX10_longest_8 : decode cX10_longest 8 = .ok (.invokevirtual 222, 3) := by decide +kernel
theorem dX10_longest_11 : decode cX10_longest 11 = .ok (.ifCond .ne 5, 3) := by decide +kernel
theorem dX10_longest_14 : decode cX10_longest 14 = .ok (.iconst 0, 1) := by decide +kernel
theorem dX10_longest_15 : decode cX10_longest 15 = .ok (.ireturn, 1) := by decide +kernel
theorem dX10_longest_16 : decode cX10_longest 16 = .ok (.aload_n 0, 1) := by decide +kernel
theorem dX10_longest_17 : decode cX10_longest 17 = .ok (.iconst 0, 1) := by decide +kernel
theorem dX10_longest_18 : decode cX10_longest 18 = .ok (.putfield 125, 3) := by decide +kernel
theorem dX10_longest_21 : decode cX10_longest 21 = .ok (.aload_n 0, 1) := by decide +kernel
theorem dX10_longest_22 : decode cX10_longest 22 = .ok (.iconst 0, 1) := by decide +kernel
theorem dX10_longest_23 : decode cX10_longest 23 = .ok (.putfield 195, 3) := by decide +kernel
theorem dX10_longest_26 : decode cX10_longest 26 = .ok (.aload_n 0, 1) := by decide +kernel
theorem dX10_longest_27 : decode cX10_longest 27 = .ok (.iload_n 1, 1) := by decide +kernel
theorem dX10_longest_28 : decode cX10_longest 28 = .ok (.iload_n 2, 1) := by decide +kernel
theorem dX10_longest_29 : decode cX10_longest 29 = .ok (.bipush 60, 2) := by decide +kernel
theorem dX10_longest_31 : decode cX10_longest 31 = .ok (.invokevirtual 225, 3) := by decide +kernel
theorem dX10_longest_34 : decode cX10_longest 34 = .ok (.aload_n 0, 1) := by decide +kernel
theorem dX10_longest_35 : decode cX10_longest 35 = .ok (.invokevirtual 229, 3) := by decide +kernel
theorem dX10_longest_38 : decode cX10_longest 38 = .ok (.ifCond .eq 5, 3) := by decide +kernel
theorem dX10_longest_41 : decode cX10_longest 41 = .ok (.iconst (-1), 1) := by decide +kernel
theorem dX10_longest_42 : decode cX10_longest 42 = .ok (.ireturn, 1) := by decide +kernel
theorem dX10_longest_43 : decode cX10_longest 43 = .ok (.aload_n 0, 1) := by decide +kernel
theorem dX10_longest_44 : decode cX10_longest 44 = .ok (.getfield 208, 3) := by decide +kernel
theorem dX10_longest_47 : decode cX10_longest 47 = .ok (.ifCond .eq 8, 3) := by decide +kernel
theorem dX10_longest_50 : decode cX10_longest 50 = .ok (.bipush (-2), 2) := by decide +kernel
theorem dX10_longest_52 : decode cX10_longest 52 = .ok (.goto 7, 3) := by decide +kernel
theorem dX10_longest_55 : decode cX10_longest 55 = .ok (.aload_n 0, 1) := by decide +kernel
theorem dX10_longest_56 : decode cX10_longest 56 = .ok (.getfield 202, 3) := by decide +kernel
theorem dX10_longest_59 : decode cX10_longest 59 = .ok (.ireturn, 1) := by decide +kernel
theorem dX10_map_0 : decode cX10_map 0 = .ok (.aload_n 0, 1) := by decide +kernel
theorem dX10_map_1 : decode cX10_map 1 = .ok (.iconst 0, 1) := by decide +kernel
theorem dX10_map_2 : decode cX10_map 2 = .ok (.putfield 1, 3) := by decide +kernel
theorem dX10_map_5 : decode cX10_map 5 = .ok (.aload_n 0, 1) := by decide +kernel
theorem dX10_map_6 : decode cX10_map 6 = .ok (.iload_n 1, 1) := by decide +kernel
theorem dX10_map_7 : decode cX10_map 7 = .ok (.ifCond .lt 24, 3) := by decide +kernel
theorem dX10_map_10 : decode cX10_map 10 = .ok (.iload_n 1, 1) := by decide +kernel
theorem dX10_map_11 : decode cX10_map 11 = .ok (.bipush 8, 2) := by decide +kernel
theorem dX10_map_13 : decode cX10_map 13 = .ok (.if_icmp .ge 18, 3) := by decide +kernel
theorem dX10_map_16 : decode cX10_map 16 = .ok (.iload_n 2, 1) := by decide +kernel
theorem dX10_map_17 : decode cX10_map 17 = .ok (.iconst 1, 1) := by decide +kernel
theorem dX10_map_18 : decode cX10_map 18 = .ok (.if_icmp .lt 13, 3) := by decide +kernel
theorem dX10_map_21 : decode cX10_map 21 = .ok (.iload_n 2, 1) := by decide +kernel
theorem dX10_map_22 : decode cX10_map 22 = .ok (.bipush 8, 2) := by decide +kernel
theorem dX10_map_24 : decode cX10_map 24 = .ok (.if_icmp .gt 7, 3) := by decide +kernel
theorem dX10_map_27 : decode cX10_map 27 = .ok (.iconst 1, 1) := by decide +kernel
theorem dX10_map_28 : decode cX10_map 28 = .ok (.goto 4, 3) := by decide +kernel
theorem dX10_map_31 : decode cX10_map 31 = .ok (.iconst 0, 1) := by decide +kernel
theorem dX10_map_32 : decode cX10_map 32 = .ok (.iconst 1, 1) := by decide +kernel
theorem dX10_map_33 : decode cX10_map 33 = .ok (.invokevirtual 100, 3) := by decide +kernel
theorem dX10_map_36 : decode cX10_map 36 = .ok (.ifCond .ne 5, 3) := by decide +kernel
theorem dX10_map_39 : decode cX10_map 39 = .ok (.iconst 0, 1) := by decide +kernel
theorem dX10_map_40 : decode cX10_map 40 = .ok (.ireturn, 1) := by decide +kernel
theorem dX10_map_41 : decode cX10_map 41 = .ok (.aload_n 0, 1) := by decide +kernel
theorem dX10_map_42 : decode cX10_map 42 = .ok (.aload_n 0, 1) := by decide +kernel
theorem dX10_map_43 : decode cX10_map 43 = .ok (.iload_n 3, 1) := by decide +kernel
theorem dX10_map_44 : decode cX10_map 44 = .ok (.invokevirtual 107, 3) := by decide +kernel
theorem dX10_map_47 : decode cX10_map 47 = .ok (.ifCond .eq 21, 3) := by decide +kernel
theorem dX10_map_50 : decode cX10_map 50 = .ok (.iload 4, 2) := by decide +kernel
theorem dX10_map_52 : decode cX10_map 52 = .ok (.ifCond .lt 16, 3) := by decide +kernel
theorem dX10_map_55 : decode cX10_map 55 = .ok (.iload 4, 2) := by decide +kernel
theorem dX10_map_57 : decode cX10_map 57 = .ok (.bipush 10, 2) := by decide +kernel
theorem dX10_map_59 : decode cX10_map 59 = .ok (.iload_n 2, 1) := by decide +kernel
theorem dX10_map_60 : decode cX10_map 60 = .ok (.isub, 1) := by decide +kernel
theorem dX10_map_61 : decode cX10_map 61 = .ok (.if_icmp .gt 7, 3) := by decide +kernel
theorem dX10_map_64 : decode cX10_map 64 = .ok (.iconst 1, 1) := by decide +kernel
theorem dX10_map_65 : decode cX10_map 65 = .ok (.goto 4, 3) := by decide +kernel
theorem dX10_map_68 : decode cX10_map 68 = .ok (.iconst 0, 1) := by decide +kernel
theorem dX10_map_69 : decode cX10_map 69 = .ok (.iconst 2, 1) := by decide +kernel
theorem dX10_map_70 : decode cX10_map 70 = .ok (.invokevirtual 100, 3) := by decide +kernel
theorem dX10_map_73 : decode cX10_map 73 = .ok (.ifCond .ne 5, 3) := by decide +kernel
theorem dX10_map_76 : decode cX10_map 76 = .ok (.iconst 0, 1) := by decide +kernel
theorem dX10_map_77 : decode cX10_map 77 = .ok (.ireturn, 1) := by decide +kernel
theorem dX10_map_78 : decode cX10_map 78 = .ok (.iconst 0, 1) := by decide +kernel
theorem dX10_map_79 : decode cX10_map 79 = .ok (.istore 5, 2) := by decide +kernel
theorem dX10_map_81 : decode cX10_map 81 = .ok (.iload 5, 2) := by decide +kernel
theorem dX10_map_83 : decode cX10_map 83 = .ok (.iload_n 2, 1) := by decide +kernel
theorem dX10_map_84 : decode cX10_map 84 = .ok (.if_icmp .ge 72, 3) := by decide +kernel
theorem dX10_map_87 : decode cX10_map 87 = .ok (.aload_n 0, 1) := by decide +kernel
theorem dX10_map_88 : decode cX10_map 88 = .ok (.iload_n 3, 1) := by decide +kernel
theorem dX10_map_89 : decode cX10_map 89 = .ok (.iload 4, 2) := by decide +kernel
theorem dX10_map_91 : decode cX10_map 91 = .ok (.iload 5, 2) := by decide +kernel
theorem dX10_map_93 : decode cX10_map 93 = .ok (.iadd, 1) := by decide +kernel
theorem dX10_map_94 : decode cX10_map 94 = .ok (.invokevirtual 118, 3) := by decide +kernel
theorem dX10_map_97 : decode cX10_map 97 = .ok (.ifCond .eq 20, 3) := by decide +kernel
theorem dX10_map_100 : decode cX10_map 100 = .ok (.aload_n 0, 1) := by decide +kernel
theorem dX10_map_101 : decode cX10_map 101 = .ok (.getfield 115, 3) := by decide +kernel
theorem dX10_map_104 : decode cX10_map 104 = .ok (.iconst 1, 1) := by decide +kernel
theorem dX10_map_105 : decode cX10_map 105 = .ok (.if_icmp .lt 12, 3) := by decide +kernel
theorem dX10_map_108 : decode cX10_map 108 = .ok (.aload_n 0, 1) := by decide +kernel
theorem dX10_map_109 : decode cX10_map 109 = .ok (.getfield 115, 3) := by decide +kernel
theorem dX10_map_112 : decode cX10_map 112 = .ok (.bipush 20, 2) := by decide +kernel
theorem dX10_map_114 : decode cX10_map 114 = .ok (.if_icmp .le 5, 3) := by decide +kernel
theorem dX10_map_117 : decode cX10_map 117 = .ok (.iconst 0, 1) := by decide +kernel
theorem dX10_map_118 : decode cX10_map 118 = .ok (.ireturn, 1) := by decide +kernel
theorem dX10_map_119 : decode cX10_map 119 = .ok (.iconst 0, 1) := by decide +kernel
theorem dX10_map_120 : decode cX10_map 120 = .ok (.istore 6, 2) := by decide +kernel
theorem dX10_map_122 : decode cX10_map 122 = .ok (.iload 6, 2) := by decide +kernel
theorem dX10_map_124 : decode cX10_map 124 = .ok (.aload_n 0, 1) := by decide +kernel
theorem dX10_map_125 : decode cX10_map 125 = .ok (.getfield 115, 3) := by decide +kernel
theorem dX10_map_128 : decode cX10_map 128 = .ok (.if_icmp .ge 22, 3) := by decide +kernel
theorem dX10_map_131 : decode cX10_map 131 = .ok (.aload_n 0, 1) := by decide +kernel
theorem dX10_map_132 : decode cX10_map 132 = .ok (.getfield 23, 3) := by decide +kernel
theorem dX10_map_135 : decode cX10_map 135 = .ok (.iload 6, 2) := by decide +kernel
theorem dX10_map_137 : decode cX10_map 137 = .ok (.iaload, 1) := by decide +kernel
theorem dX10_map_138 : decode cX10_map 138 = .ok (.iload_n 2, 1) := by decide +kernel
theorem dX10_map_139 : decode cX10_map 139 = .ok (.if_icmp .lt 5, 3) := by decide +kernel
theorem dX10_map_142 : decode cX10_map 142 = .ok (.iconst 0, 1) := by decide +kernel
theorem dX10_map_143 : decode cX10_map 143 = .ok (.ireturn, 1) := by decide +kernel
theorem dX10_map_144 : decode cX10_map 144 = .ok (.iinc 6 1, 3) := by decide +kernel
theorem dX10_map_147 : decode cX10_map 147 = .ok (.goto (-25), 3) := by decide +kernel
theorem dX10_map_150 : decode cX10_map 150 = .ok (.iinc 5 1, 3) := by decide +kernel
theorem dX10_map_153 : decode cX10_map 153 = .ok (.goto (-72), 3) := by decide +kernel
theorem dX10_map_156 : decode cX10_map 156 = .ok (.iconst 0, 1) := by decide +kernel
theorem dX10_map_157 : decode cX10_map 157 = .ok (.istore 5, 2) := by decide +kernel
theorem dX10_map_159 : decode cX10_map 159 = .ok (.iload 5, 2) := by decide +kernel
theorem dX10_map_161 : decode cX10_map 161 = .ok (.iload_n 2, 1) := by decide +kernel
theorem dX10_map_162 : decode cX10_map 162 = .ok (.if_icmp .ge 79, 3) := by decide +kernel
theorem dX10_map_165 : decode cX10_map 165 = .ok (.aload_n 0, 1) := by decide +kernel
theorem dX10_map_166 : decode cX10_map 166 = .ok (.iload_n 3, 1) := by decide +kernel
theorem dX10_map_167 : decode cX10_map 167 = .ok (.iload 4, 2) := by decide +kernel
theorem dX10_map_169 : decode cX10_map 169 = .ok (.iload 5, 2) := by decide +kernel
theorem dX10_map_171 : decode cX10_map 171 = .ok (.iadd, 1) := by decide +kernel
theorem dX10_map_172 : decode cX10_map 172 = .ok (.invokevirtual 118, 3) := by decide +kernel
theorem dX10_map_175 : decode cX10_map 175 = .ok (.pop, 1) := by decide +kernel
theorem dX10_map_176 : decode cX10_map 176 = .ok (.aload_n 0, 1) := by decide +kernel
theorem dX10_map_177 : decode cX10_map 177 = .ok (.getfield 72, 3) := by decide +kernel
theorem dX10_map_180 : decode cX10_map 180 = .ok (.bipush 8, 2) := by decide +kernel
theorem dX10_map_182 : decode cX10_map 182 = .ok (.iload_n 1, 1) := by decide +kernel
theorem dX10_map_183 : decode cX10_map 183 = .ok (.imul, 1) := by decide +kernel
theorem dX10_map_184 : decode cX10_map 184 = .ok (.iload 5, 2) := by decide +kernel
theorem dX10_map_186 : decode cX10_map 186 = .ok (.iadd, 1) := by decide +kernel
theorem dX10_map_187 : decode cX10_map 187 = .ok (.aload_n 0, 1) := by decide +kernel
theorem dX10_map_188 : decode cX10_map 188 = .ok (.getfield 115, 3) := by decide +kernel
theorem dX10_map_191 : decode cX10_map 191 = .ok (.iastore, 1) := by decide +kernel
theorem dX10_map_192 : decode cX10_map 192 = .ok (.iconst 0, 1) := by decide +kernel
theorem dX10_map_193 : decode cX10_map 193 = .ok (.istore 6, 2) := by decide +kernel
theorem dX10_map_195 : decode cX10_map 195 = .ok (.iload 6, 2) := by decide +kernel
theorem dX10_map_197 : decode cX10_map 197 = .ok (.aload_n 0, 1) := by decide +kernel
theorem dX10_map_198 : decode cX10_map 198 = .ok (.getfield 115, 3) := by decide +kernel
theorem dX10_map_201 : decode cX10_map 201 = .ok (.if_icmp .ge 34, 3) := by decide +kernel
theorem dX10_map_204 : decode cX10_map 204 = .ok (.aload_n 0, 1) := by decide +kernel
theorem dX10_map_205 : decode cX10_map 205 = .ok (.getfield 75, 3) := by decide +kernel
theorem dX10_map_208 : decode cX10_map 208 = .ok (.bipush 20, 2) := by decide +kernel
theorem dX10_map_210 : decode cX10_map 210 = .ok (.bipush 8, 2) := by decide +kernel
theorem dX10_map_212 : decode cX10_map 212 = .ok (.iload_n 1, 1) := by decide +kernel
theorem dX10_map_213 : decode cX10_map 213 = .ok (.imul, 1) := by decide +kernel
theorem dX10_map_214 : decode cX10_map 214 = .ok (.iload 5, 2) := by decide +kernel
theorem dX10_map_216 : decode cX10_map 216 = .ok (.iadd, 1) := by decide +kernel
theorem dX10_map_217 : decode cX10_map 217 = .ok (.imul, 1) := by decide +kernel
theorem dX10_map_218 : decode cX10_map 218 = .ok (.iload 6, 2) := by decide +kernel
theorem dX10_map_220 : decode cX10_map 220 = .ok (.iadd, 1) := by decide +kernel
theorem dX10_map_221 : decode cX10_map 221 = .ok (.aload_n 0, 1) := by decide +kernel
theorem dX10_map_222 : decode cX10_map 222 = .ok (.getfield 23, 3) := by decide +kernel
theorem dX10_map_225 : decode cX10_map 225 = .ok (.iload 6, 2) := by decide +kernel
theorem dX10_map_227 : decode cX10_map 227 = .ok (.iaload, 1) := by decide +kernel
theorem dX10_map_228 : decode cX10_map 228 = .ok (.iastore, 1) := by decide +kernel
theorem dX10_map_229 : decode cX10_map 229 = .ok (.iinc 6 1, 3) := by decide +kernel
theorem dX10_map_232 : decode cX10_map 232 = .ok (.goto (-37), 3) := by decide +kernel
theorem dX10_map_235 : decode cX10_map 235 = .ok (.iinc 5 1, 3) := by decide +kernel
theorem dX10_map_238 : decode cX10_map 238 = .ok (.goto (-79), 3) := by decide +kernel
theorem dX10_map_241 : decode cX10_map 241 = .ok (.aload_n 0, 1) := by decide +kernel
theorem dX10_map_242 : decode cX10_map 242 = .ok (.getfield 65, 3) := by decide +kernel
theorem dX10_map_245 : decode cX10_map 245 = .ok (.iload_n 1, 1) := by decide +kernel
theorem dX10_map_246 : decode cX10_map 246 = .ok (.iconst 1, 1) := by decide +kernel
theorem dX10_map_247 : decode cX10_map 247 = .ok (.bastore, 1) := by decide +kernel
theorem dX10_map_248 : decode cX10_map 248 = .ok (.aload_n 0, 1) := by decide +kernel
theorem dX10_map_249 : decode cX10_map 249 = .ok (.getfield 69, 3) := by decide +kernel
theorem dX10_map_252 : decode cX10_map 252 = .ok (.iload_n 1, 1) := by decide +kernel
theorem dX10_map_253 : decode cX10_map 253 = .ok (.iload_n 2, 1) := by decide +kernel
theorem dX10_map_254 : decode cX10_map 254 = .ok (.iastore, 1) := by decide +kernel
theorem dX10_map_255 : decode cX10_map 255 = .ok (.iconst 1, 1) := by decide +kernel
theorem dX10_map_256 : decode cX10_map 256 = .ok (.ireturn, 1) := by decide +kernel
theorem dX10_isMap_0 : decode cX10_isMap 0 = .ok (.aload_n 0, 1) := by decide +kernel
theorem dX10_isMap_1 : decode cX10_isMap 1 = .ok (.iload_n 1, 1) := by decide +kernel
theorem dX10_isMap_2 : decode cX10_isMap 2 = .ok (.ifCond .lt 22, 3) := by decide +kernel
theorem dX10_isMap_5 : decode cX10_isMap 5 = .ok (.iload_n 1, 1) := by decide +kernel
theorem dX10_isMap_6 : decode cX10_isMap 6 = .ok (.bipush 8, 2) := by decide +kernel
theorem dX10_isMap_8 : decode cX10_isMap 8 = .ok (.if_icmp .ge 16, 3) := by decide +kernel
theorem dX10_isMap_11 : decode cX10_isMap 11 = .ok (.aload_n 0, 1) := by decide +kernel
theorem dX10_isMap_12 : decode cX10_isMap 12 = .ok (.getfield 65, 3) := by decide +kernel
theorem dX10_isMap_15 : decode cX10_isMap 15 = .ok (.iload_n 1, 1) := by decide +kernel
theorem dX10_isMap_16 : decode cX10_isMap 16 = .ok (.baload, 1) := by decide +kernel
theorem dX10_isMap_17 : decode cX10_isMap 17 = .ok (.ifCond .eq 7, 3) := by decide +kernel
theorem dX10_isMap_20 : decode cX10_isMap 20 = .ok (.iconst 1, 1) := by decide +kernel
theorem dX10_isMap_21 : decode cX10_isMap 21 = .ok (.goto 4, 3) := by decide +kernel
theorem dX10_isMap_24 : decode cX10_isMap 24 = .ok (.iconst 0, 1) := by decide +kernel
theorem dX10_isMap_25 : decode cX10_isMap 25 = .ok (.iconst 1, 1) := by decide +kernel
theorem dX10_isMap_26 : decode cX10_isMap 26 = .ok (.invokevirtual 100, 3) := by decide +kernel
theorem dX10_isMap_29 : decode cX10_isMap 29 = .ok (.ireturn, 1) := by decide +kernel
theorem dX10_findImage_0 : decode cX10_findImage 0 = .ok (.aload_n 0, 1) := by decide +kernel
theorem dX10_findImage_1 : decode cX10_findImage 1 = .ok (.iconst 0, 1) := by decide +kernel
theorem dX10_findImage_2 : decode cX10_findImage 2 = .ok (.putfield 235, 3) := by decide +kernel
theorem dX10_findImage_5 : decode cX10_findImage 5 = .ok (.iconst 0, 1) := by decide +kernel
theorem dX10_findImage_6 : decode cX10_findImage 6 = .ok (.istore 4, 2) := by decide +kernel
theorem dX10_findImage_8 : decode cX10_findImage 8 = .ok (.iload 4, 2) := by decide +kernel
theorem dX10_findImage_10 : decode cX10_findImage 10 = .ok (.iload_n 3, 1) := by decide +kernel
theorem dX10_findImage_11 : decode cX10_findImage 11 = .ok (.if_icmp .ge 73, 3) := by decide +kernel
theorem dX10_findImage_14 : decode cX10_findImage 14 = .ok (.bipush 8, 2) := by decide +kernel
theorem dX10_findImage_16 : decode cX10_findImage 16 = .ok (.iload_n 1, 1) := by decide +kernel
theorem dX10_findImage_17 : decode cX10_findImage 17 = .ok (.imul, 1) := by decide +kernel
theorem dX10_findImage_18 : decode cX10_findImage 18 = .ok (.aload_n 2, 1) := by decide +kernel
theorem dX10_findImage_19 : decode cX10_findImage 19 = .ok (.iload 4, 2) := by decide +kernel
theorem dX10_findImage_21 : decode cX10_findImage 21 = .ok (.iaload, 1) := by decide +kernel
theorem dX10_findImage_22 : decode cX10_findImage 22 = .ok (.iadd, 1) := by decide +kernel
theorem dX10_findImage_23 : decode cX10_findImage 23 = .ok (.istore 5, 2) := by decide +kernel
theorem dX10_findImage_25 : decode cX10_findImage 25 = .ok (.iconst 0, 1) := by decide +kernel
theorem dX10_findImage_26 : decode cX10_findImage 26 = .ok (.istore 6, 2) := by decide +kernel
theorem dX10_findImage_28 : decode cX10_findImage 28 = .ok (.iload 6, 2) := by decide +kernel
theorem dX10_findImage_30 : decode cX10_findImage 30 = .ok (.aload_n 0, 1) := by decide +kernel
theorem dX10_findImage_31 : decode cX10_findImage 31 = .ok (.getfield 72, 3) := by decide +kernel
theorem dX10_findImage_34 : decode cX10_findImage 34 = .ok (.iload 5, 2) := by decide +kernel
theorem dX10_findImage_36 : decode cX10_findImage 36 = .ok (.iaload, 1) := by decide +kernel
theorem dX10_findImage_37 : decode cX10_findImage 37 = .ok (.if_icmp .ge 41, 3) := by decide +kernel
theorem dX10_findImage_40 : decode cX10_findImage 40 = .ok (.aload_n 0, 1) := by decide +kernel
theorem dX10_findImage_41 : decode cX10_findImage 41 = .ok (.getfield 78, 3) := by decide +kernel
theorem dX10_findImage_44 : decode cX10_findImage 44 = .ok (.aload_n 0, 1) := by decide +kernel
theorem dX10_findImage_45 : decode cX10_findImage 45 = .ok (.getfield 235, 3) := by decide +kernel
theorem dX10_findImage_48 : decode cX10_findImage 48 = .ok (.aload_n 0, 1) := by decide +kernel
theorem dX10_findImage_49 : decode cX10_findImage 49 = .ok (.getfield 75, 3) := by decide +kernel
theorem dX10_findImage_52 : decode cX10_findImage 52 = .ok (.bipush 20, 2) := by decide +kernel
theorem dX10_findImage_54 : decode cX10_findImage 54 = .ok (.iload 5, 2) := by decide +kernel
theorem dX10_findImage_56 : decode cX10_findImage 56 = .ok (.imul, 1) := by decide +kernel
theorem dX10_findImage_57 : decode cX10_findImage 57 = .ok (.iload 6, 2) := by decide +kernel
theorem dX10_findImage_59 : decode cX10_findImage 59 = .ok (.iadd, 1) := by decide +kernel
theorem dX10_findImage_60 : decode cX10_findImage 60 = .ok (.iaload, 1) := by decide +kernel
theorem dX10_findImage_61 : decode cX10_findImage 61 = .ok (.iastore, 1) := by decide +kernel
theorem dX10_findImage_62 : decode cX10_findImage 62 = .ok (.aload_n 0, 1) := by decide +kernel
theorem dX10_findImage_63 : decode cX10_findImage 63 = .ok (.dup, 1) := by decide +kernel
theorem dX10_findImage_64 : decode cX10_findImage 64 = .ok (.getfield 235, 3) := by decide +kernel
theorem dX10_findImage_67 : decode cX10_findImage 67 = .ok (.iconst 1, 1) := by decide +kernel
theorem dX10_findImage_68 : decode cX10_findImage 68 = .ok (.iadd, 1) := by decide +kernel
theorem dX10_findImage_69 : decode cX10_findImage 69 = .ok (.putfield 235, 3) := by decide +kernel
theorem dX10_findImage_72 : decode cX10_findImage 72 = .ok (.iinc 6 1, 3) := by decide +kernel
theorem dX10_findImage_75 : decode cX10_findImage 75 = .ok (.goto (-47), 3) := by decide +kernel
theorem dX10_findImage_78 : decode cX10_findImage 78 = .ok (.iinc 4 1, 3) := by decide +kernel
theorem dX10_findImage_81 : decode cX10_findImage 81 = .ok (.goto (-73), 3) := by decide +kernel
theorem dX10_findImage_84 : decode cX10_findImage 84 = .ok (.return_, 1) := by decide +kernel
theorem dX10_image_0 : decode cX10_image 0 = .ok (.aload_n 0, 1) := by decide +kernel
theorem dX10_image_1 : decode cX10_image 1 = .ok (.iconst 0, 1) := by decide +kernel
theorem dX10_image_2 : decode cX10_image 2 = .ok (.putfield 1, 3) := by decide +kernel
theorem dX10_image_5 : decode cX10_image 5 = .ok (.aload_n 0, 1) := by decide +kernel
theorem dX10_image_6 : decode cX10_image 6 = .ok (.iload_n 1, 1) := by decide +kernel
theorem dX10_image_7 : decode cX10_image 7 = .ok (.invokevirtual 238, 3) := by decide +kernel
theorem dX10_image_10 : decode cX10_image 10 = .ok (.ifCond .eq 27, 3) := by decide +kernel
theorem dX10_image_13 : decode cX10_image 13 = .ok (.aload_n 0, 1) := by decide +kernel
theorem dX10_image_14 : decode cX10_image 14 = .ok (.iload_n 2, 1) := by decide +kernel
theorem dX10_image_15 : decode cX10_image 15 = .ok (.iload_n 3, 1) := by decide +kernel
theorem dX10_image_16 : decode cX10_image 16 = .ok (.iconst 2, 1) := by decide +kernel
theorem dX10_image_17 : decode cX10_image 17 = .ok (.invokevirtual 111, 3) := by decide +kernel
theorem dX10_image_20 : decode cX10_image 20 = .ok (.ifCond .eq 17, 3) := by decide +kernel
theorem dX10_image_23 : decode cX10_image 23 = .ok (.aload_n 0, 1) := by decide +kernel
theorem dX10_image_24 : decode cX10_image 24 = .ok (.aload_n 0, 1) := by decide +kernel
theorem dX10_image_25 : decode cX10_image 25 = .ok (.iload 4, 2) := by decide +kernel
theorem dX10_image_27 : decode cX10_image 27 = .ok (.invokevirtual 107, 3) := by decide +kernel
theorem dX10_image_30 : decode cX10_image 30 = .ok (.iconst 2, 1) := by decide +kernel
theorem dX10_image_31 : decode cX10_image 31 = .ok (.invokevirtual 100, 3) := by decide +kernel
theorem dX10_image_34 : decode cX10_image 34 = .ok (.ifCond .ne 5, 3) := by decide +kernel
theorem dX10_image_37 : decode cX10_image 37 = .ok (.iconst 0, 1) := by decide +kernel
theorem dX10_image_38 : decode cX10_image 38 = .ok (.ireturn, 1) := by decide +kernel
theorem dX10_image_39 : decode cX10_image 39 = .ok (.aload_n 0, 1) := by decide +kernel
theorem dX10_image_40 : decode cX10_image 40 = .ok (.iload_n 2, 1) := by decide +kernel
theorem dX10_image_41 : decode cX10_image 41 = .ok (.iload_n 3, 1) := by decide +kernel
theorem dX10_image_42 : decode cX10_image 42 = .ok (.invokevirtual 118, 3) := by decide +kernel
theorem dX10_image_45 : decode cX10_image 45 = .ok (.ifCond .ne 5, 3) := by decide +kernel
theorem dX10_image_48 : decode cX10_image 48 = .ok (.iconst (-1), 1) := by decide +kernel
theorem dX10_image_49 : decode cX10_image 49 = .ok (.ireturn, 1) := by decide +kernel
theorem dX10_image_50 : decode cX10_image 50 = .ok (.iconst 0, 1) := by decide +kernel
theorem dX10_image_51 : decode cX10_image 51 = .ok (.istore 5, 2) := by decide +kernel
theorem dX10_image_53 : decode cX10_image 53 = .ok (.iload 5, 2) := by decide +kernel
theorem dX10_image_55 : decode cX10_image 55 = .ok (.aload_n 0, 1) := by decide +kernel
theorem dX10_image_56 : decode cX10_image 56 = .ok (.getfield 115, 3) := by decide +kernel
theorem dX10_image_59 : decode cX10_image 59 = .ok (.if_icmp .ge 27, 3) := by decide +kernel
theorem dX10_image_62 : decode cX10_image 62 = .ok (.aload_n 0, 1) := by decide +kernel
theorem dX10_image_63 : decode cX10_image 63 = .ok (.getfield 23, 3) := by decide +kernel
theorem dX10_image_66 : decode cX10_image 66 = .ok (.iload 5, 2) := by decide +kernel
theorem dX10_image_68 : decode cX10_image 68 = .ok (.iaload, 1) := by decide +kernel
theorem dX10_image_69 : decode cX10_image 69 = .ok (.aload_n 0, 1) := by decide +kernel
theorem dX10_image_70 : decode cX10_image 70 = .ok (.getfield 69, 3) := by decide +kernel
theorem dX10_image_73 : decode cX10_image 73 = .ok (.iload_n 1, 1) := by decide +kernel
theorem dX10_image_74 : decode cX10_image 74 = .ok (.iaload, 1) := by decide +kernel
theorem dX10_image_75 : decode cX10_image 75 = .ok (.if_icmp .lt 5, 3) := by decide +kernel
theorem dX10_image_78 : decode cX10_image 78 = .ok (.iconst (-1), 1) := by decide +kernel
theorem dX10_image_79 : decode cX10_image 79 = .ok (.ireturn, 1) := by decide +kernel
theorem dX10_image_80 : decode cX10_image 80 = .ok (.iinc 5 1, 3) := by decide +kernel
theorem dX10_image_83 : decode cX10_image 83 = .ok (.goto (-30), 3) := by decide +kernel
theorem dX10_image_86 : decode cX10_image 86 = .ok (.aload_n 0, 1) := by decide +kernel
theorem dX10_image_87 : decode cX10_image 87 = .ok (.iload_n 1, 1) := by decide +kernel
theorem dX10_image_88 : decode cX10_image 88 = .ok (.aload_n 0, 1) := by decide +kernel
theorem dX10_image_89 : decode cX10_image 89 = .ok (.getfield 23, 3) := by decide +kernel
theorem dX10_image_92 : decode cX10_image 92 = .ok (.aload_n 0, 1) := by decide +kernel
theorem dX10_image_93 : decode cX10_image 93 = .ok (.getfield 115, 3) := by decide +kernel
theorem dX10_image_96 : decode cX10_image 96 = .ok (.invokevirtual 241, 3) := by decide +kernel
theorem dX10_image_99 : decode cX10_image 99 = .ok (.aload_n 0, 1) := by decide +kernel
theorem dX10_image_100 : decode cX10_image 100 = .ok (.getfield 235, 3) := by decide +kernel
theorem dX10_image_103 : decode cX10_image 103 = .ok (.bipush 60, 2) := by decide +kernel
theorem dX10_image_105 : decode cX10_image 105 = .ok (.if_icmp .le 6, 3) := by decide +kernel
theorem dX10_image_108 : decode cX10_image 108 = .ok (.bipush (-2), 2) := by decide +kernel
theorem dX10_image_110 : decode cX10_image 110 = .ok (.ireturn, 1) := by decide +kernel
theorem dX10_image_111 : decode cX10_image 111 = .ok (.aload_n 0, 1) := by decide +kernel
theorem dX10_image_112 : decode cX10_image 112 = .ok (.iload 4, 2) := by decide +kernel
theorem dX10_image_114 : decode cX10_image 114 = .ok (.aload_n 0, 1) := by decide +kernel
theorem dX10_image_115 : decode cX10_image 115 = .ok (.getfield 78, 3) := by decide +kernel
theorem dX10_image_118 : decode cX10_image 118 = .ok (.aload_n 0, 1) := by decide +kernel
theorem dX10_image_119 : decode cX10_image 119 = .ok (.getfield 235, 3) := by decide +kernel
theorem dX10_image_122 : decode cX10_image 122 = .ok (.invokevirtual 232, 3) := by decide +kernel
theorem dX10_image_125 : decode cX10_image 125 = .ok (.aload_n 0, 1) := by decide +kernel
theorem dX10_image_126 : decode cX10_image 126 = .ok (.getfield 235, 3) := by decide +kernel
theorem dX10_image_129 : decode cX10_image 129 = .ok (.ireturn, 1) := by decide +kernel
theorem dX10_hasSquare_0 : decode cX10_hasSquare 0 = .ok (.iconst 2, 1) := by decide +kernel
theorem dX10_hasSquare_1 : decode cX10_hasSquare 1 = .ok (.istore_n 1, 1) := by decide +kernel
theorem dX10_hasSquare_2 : decode cX10_hasSquare 2 = .ok (.iload_n 1, 1) := by decide +kernel
theorem dX10_hasSquare_3 : decode cX10_hasSquare 3 = .ok (.aload_n 0, 1) := by decide +kernel
theorem dX10_hasSquare_4 : decode cX10_hasSquare 4 = .ok (.getfield 235, 3) := by decide +kernel
theorem dX10_hasSquare_7 : decode cX10_hasSquare 7 = .ok (.if_icmp .gt 43, 3) := by decide +kernel
theorem dX10_hasSquare_10 : decode cX10_hasSquare 10 = .ok (.iconst 1, 1) := by decide +kernel
theorem dX10_hasSquare_11 : decode cX10_hasSquare 11 = .ok (.istore_n 2, 1) := by decide +kernel
theorem dX10_hasSquare_12 : decode cX10_hasSquare 12 = .ok (.iconst 2, 1) := by decide +kernel
theorem dX10_hasSquare_13 : decode cX10_hasSquare 13 = .ok (.iload_n 2, 1) := by decide +kernel
theorem dX10_hasSquare_14 : decode cX10_hasSquare 14 = .ok (.imul, 1) := by decide +kernel
theorem dX10_hasSquare_15 : decode cX10_hasSquare 15 = .ok (.iload_n 1, 1) := by decide +kernel
theorem dX10_hasSquare_16 : decode cX10_hasSquare 16 = .ok (.if_icmp .gt 28, 3) := by decide +kernel
theorem dX10_hasSquare_19 : decode cX10_hasSquare 19 = .ok (.aload_n 0, 1) := by decide +kernel
theorem dX10_hasSquare_20 : decode cX10_hasSquare 20 = .ok (.getfield 78, 3) := by decide +kernel
theorem dX10_hasSquare_23 : decode cX10_hasSquare 23 = .ok (.iload_n 1, 1) := by decide +kernel
theorem dX10_hasSquare_24 : decode cX10_hasSquare 24 = .ok (.iconst 2, 1) := by decide +kernel
theorem dX10_hasSquare_25 : decode cX10_hasSquare 25 = .ok (.iload_n 2, 1) := by decide +kernel
theorem dX10_hasSquare_26 : decode cX10_hasSquare 26 = .ok (.imul, 1) := by decide +kernel
theorem dX10_hasSquare_27 : decode cX10_hasSquare 27 = .ok (.isub, 1) := by decide +kernel
theorem dX10_hasSquare_28 : decode cX10_hasSquare 28 = .ok (.iload_n 1, 1) := by decide +kernel
theorem dX10_hasSquare_29 : decode cX10_hasSquare 29 = .ok (.iload_n 2, 1) := by decide +kernel
theorem dX10_hasSquare_30 : decode cX10_hasSquare 30 = .ok (.invokestatic 128, 3) := by decide +kernel
theorem dX10_hasSquare_33 : decode cX10_hasSquare 33 = .ok (.ifCond .eq 5, 3) := by decide +kernel
theorem dX10_hasSquare_36 : decode cX10_hasSquare 36 = .ok (.iconst 1, 1) := by decide +kernel
theorem dX10_hasSquare_37 : decode cX10_hasSquare 37 = .ok (.ireturn, 1) := by decide +kernel
theorem dX10_hasSquare_38 : decode cX10_hasSquare 38 = .ok (.iinc 2 1, 3) := by decide +kernel
theorem dX10_hasSquare_41 : decode cX10_hasSquare 41 = .ok (.goto (-29), 3) := by decide +kernel
theorem dX10_hasSquare_44 : decode cX10_hasSquare 44 = .ok (.iinc 1 1, 3) := by decide +kernel
theorem dX10_hasSquare_47 : decode cX10_hasSquare 47 = .ok (.goto (-45), 3) := by decide +kernel
theorem dX10_hasSquare_50 : decode cX10_hasSquare 50 = .ok (.iconst 0, 1) := by decide +kernel
theorem dX10_hasSquare_51 : decode cX10_hasSquare 51 = .ok (.ireturn, 1) := by decide +kernel
theorem dX10_keeps_0 : decode cX10_keeps 0 = .ok (.aload_n 0, 1) := by decide +kernel
theorem dX10_keeps_1 : decode cX10_keeps 1 = .ok (.iconst 0, 1) := by decide +kernel
theorem dX10_keeps_2 : decode cX10_keeps 2 = .ok (.putfield 1, 3) := by decide +kernel
theorem dX10_keeps_5 : decode cX10_keeps 5 = .ok (.aload_n 0, 1) := by decide +kernel
theorem dX10_keeps_6 : decode cX10_keeps 6 = .ok (.iload_n 1, 1) := by decide +kernel
theorem dX10_keeps_7 : decode cX10_keeps 7 = .ok (.invokevirtual 238, 3) := by decide +kernel
theorem dX10_keeps_10 : decode cX10_keeps 10 = .ok (.ifCond .eq 16, 3) := by decide +kernel
theorem dX10_keeps_13 : decode cX10_keeps 13 = .ok (.aload_n 0, 1) := by decide +kernel
theorem dX10_keeps_14 : decode cX10_keeps 14 = .ok (.aload_n 0, 1) := by decide +kernel
theorem dX10_keeps_15 : decode cX10_keeps 15 = .ok (.iload_n 2, 1) := by decide +kernel
theorem dX10_keeps_16 : decode cX10_keeps 16 = .ok (.invokevirtual 107, 3) := by decide +kernel
theorem dX10_keeps_19 : decode cX10_keeps 19 = .ok (.iconst 2, 1) := by decide +kernel
theorem dX10_keeps_20 : decode cX10_keeps 20 = .ok (.invokevirtual 100, 3) := by decide +kernel
theorem dX10_keeps_23 : decode cX10_keeps 23 = .ok (.ifCond .ne 5, 3) := by decide +kernel
theorem dX10_keeps_26 : decode cX10_keeps 26 = .ok (.iconst 0, 1) := by decide +kernel
theorem dX10_keeps_27 : decode cX10_keeps 27 = .ok (.ireturn, 1) := by decide +kernel
theorem dX10_keeps_28 : decode cX10_keeps 28 = .ok (.iconst 0, 1) := by decide +kernel
theorem dX10_keeps_29 : decode cX10_keeps 29 = .ok (.istore_n 3, 1) := by decide +kernel
theorem dX10_keeps_30 : decode cX10_keeps 30 = .ok (.bipush 20, 2) := by decide +kernel
theorem dX10_keeps_32 : decode cX10_keeps 32 = .ok (.istore 4, 2) := by decide +kernel
theorem dX10_keeps_34 : decode cX10_keeps 34 = .ok (.iconst 0, 1) := by decide +kernel
theorem dX10_keeps_35 : decode cX10_keeps 35 = .ok (.istore 5, 2) := by decide +kernel
theorem dX10_keeps_37 : decode cX10_keeps 37 = .ok (.iload 5, 2) := by decide +kernel
theorem dX10_keeps_39 : decode cX10_keeps 39 = .ok (.aload_n 0, 1) := by decide +kernel
theorem dX10_keeps_40 : decode cX10_keeps 40 = .ok (.getfield 69, 3) := by decide +kernel
theorem dX10_keeps_43 : decode cX10_keeps 43 = .ok (.iload_n 1, 1) := by decide +kernel
theorem dX10_keeps_44 : decode cX10_keeps 44 = .ok (.iaload, 1) := by decide +kernel
theorem dX10_keeps_45 : decode cX10_keeps 45 = .ok (.if_icmp .ge 52, 3) := by decide +kernel
theorem dX10_keeps_48 : decode cX10_keeps 48 = .ok (.aload_n 0, 1) := by decide +kernel
theorem dX10_keeps_49 : decode cX10_keeps 49 = .ok (.getfield 72, 3) := by decide +kernel
theorem dX10_keeps_52 : decode cX10_keeps 52 = .ok (.bipush 8, 2) := by decide +kernel
theorem dX10_keeps_54 : decode cX10_keeps 54 = .ok (.iload_n 1, 1) := by decide +kernel
theorem dX10_keeps_55 : decode cX10_keeps 55 = .ok (.imul, 1) := by decide +kernel
theorem dX10_keeps_56 : decode cX10_keeps 56 = .ok (.iload 5, 2) := by decide +kernel
theorem dX10_keeps_58 : decode cX10_keeps 58 = .ok (.iadd, 1) := by decide +kernel
theorem dX10_keeps_59 : decode cX10_keeps 59 = .ok (.iaload, 1) := by decide +kernel
theorem dX10_keeps_60 : decode cX10_keeps 60 = .ok (.istore 6, 2) := by decide +kernel
theorem dX10_keeps_62 : decode cX10_keeps 62 = .ok (.iload 6, 2) := by decide +kernel
theorem dX10_keeps_64 : decode cX10_keeps 64 = .ok (.iload_n 3, 1) := by decide +kernel
theorem dX10_keeps_65 : decode cX10_keeps 65 = .ok (.if_icmp .le 8, 3) := by decide +kernel
theorem dX10_keeps_68 : decode cX10_keeps 68 = .ok (.iload 6, 2) := by decide +kernel
theorem dX10_keeps_70 : decode cX10_keeps 70 = .ok (.goto 4, 3) := by decide +kernel
theorem dX10_keeps_73 : decode cX10_keeps 73 = .ok (.iload_n 3, 1) := by decide +kernel
theorem dX10_keeps_74 : decode cX10_keeps 74 = .ok (.istore_n 3, 1) := by decide +kernel
theorem dX10_keeps_75 : decode cX10_keeps 75 = .ok (.iload 6, 2) := by decide +kernel
theorem dX10_keeps_77 : decode cX10_keeps 77 = .ok (.iload 4, 2) := by decide +kernel
theorem dX10_keeps_79 : decode cX10_keeps 79 = .ok (.if_icmp .ge 8, 3) := by decide +kernel
theorem dX10_keeps_82 : decode cX10_keeps 82 = .ok (.iload 6, 2) := by decide +kernel
theorem dX10_keeps_84 : decode cX10_keeps 84 = .ok (.goto 5, 3) := by decide +kernel
theorem dX10_keeps_87 : decode cX10_keeps 87 = .ok (.iload 4, 2) := by decide +kernel
theorem dX10_keeps_89 : decode cX10_keeps 89 = .ok (.istore 4, 2) := by decide +kernel
theorem dX10_keeps_91 : decode cX10_keeps 91 = .ok (.iinc 5 1, 3) := by decide +kernel
theorem dX10_keeps_94 : decode cX10_keeps 94 = .ok (.goto (-57), 3) := by decide +kernel
theorem dX10_keeps_97 : decode cX10_keeps 97 = .ok (.iload_n 3, 1) := by decide +kernel
theorem dX10_keeps_98 : decode cX10_keeps 98 = .ok (.iconst 3, 1) := by decide +kernel
theorem dX10_keeps_99 : decode cX10_keeps 99 = .ok (.if_icmp .le 19, 3) := by decide +kernel
theorem dX10_keeps_102 : decode cX10_keeps 102 = .ok (.iconst 1, 1) := by decide +kernel
theorem dX10_keeps_103 : decode cX10_keeps 103 = .ok (.iload_n 3, 1) := by decide +kernel
theorem dX10_keeps_104 : decode cX10_keeps 104 = .ok (.iconst 3, 1) := by decide +kernel
theorem dX10_keeps_105 : decode cX10_keeps 105 = .ok (.isub, 1) := by decide +kernel
theorem dX10_keeps_106 : decode cX10_keeps 106 = .ok (.iload 4, 2) := by decide +kernel
theorem dX10_keeps_108 : decode cX10_keeps 108 = .ok (.iadd, 1) := by decide +kernel
theorem dX10_keeps_109 : decode cX10_keeps 109 = .ok (.iconst 1, 1) := by decide +kernel
theorem dX10_keeps_110 : decode cX10_keeps 110 = .ok (.isub, 1) := by decide +kernel
theorem dX10_keeps_111 : decode cX10_keeps 111 = .ok (.iload 4, 2) := by decide +kernel
theorem dX10_keeps_113 : decode cX10_keeps 113 = .ok (.idiv, 1) := by decide +kernel
theorem dX10_keeps_114 : decode cX10_keeps 114 = .ok (.iadd, 1) := by decide +kernel
theorem dX10_keeps_115 : decode cX10_keeps 115 = .ok (.goto 4, 3) := by decide +kernel
theorem dX10_keeps_118 : decode cX10_keeps 118 = .ok (.iconst 1, 1) := by decide +kernel
theorem dX10_keeps_119 : decode cX10_keeps 119 = .ok (.istore 5, 2) := by decide +kernel
theorem dX10_keeps_121 : decode cX10_keeps 121 = .ok (.iload 5, 2) := by decide +kernel
theorem dX10_keeps_123 : decode cX10_keeps 123 = .ok (.iconst 3, 1) := by decide +kernel
theorem dX10_keeps_124 : decode cX10_keeps 124 = .ok (.if_icmp .ge 7, 3) := by decide +kernel
theorem dX10_keeps_127 : decode cX10_keeps 127 = .ok (.iconst 3, 1) := by decide +kernel
theorem dX10_keeps_128 : decode cX10_keeps 128 = .ok (.goto 5, 3) := by decide +kernel
theorem dX10_keeps_131 : decode cX10_keeps 131 = .ok (.iload 5, 2) := by decide +kernel
theorem dX10_keeps_133 : decode cX10_keeps 133 = .ok (.istore 5, 2) := by decide +kernel
theorem dX10_keeps_135 : decode cX10_keeps 135 = .ok (.aload_n 0, 1) := by decide +kernel
theorem dX10_keeps_136 : decode cX10_keeps 136 = .ok (.iconst 0, 1) := by decide +kernel
theorem dX10_keeps_137 : decode cX10_keeps 137 = .ok (.putfield 125, 3) := by decide +kernel
theorem dX10_keeps_140 : decode cX10_keeps 140 = .ok (.aload_n 0, 1) := by decide +kernel
theorem dX10_keeps_141 : decode cX10_keeps 141 = .ok (.iconst 1, 1) := by decide +kernel
theorem dX10_keeps_142 : decode cX10_keeps 142 = .ok (.putfield 195, 3) := by decide +kernel
theorem dX10_keeps_145 : decode cX10_keeps 145 = .ok (.iconst 1, 1) := by decide +kernel
theorem dX10_keeps_146 : decode cX10_keeps 146 = .ok (.istore 6, 2) := by decide +kernel
theorem dX10_keeps_148 : decode cX10_keeps 148 = .ok (.iload 6, 2) := by decide +kernel
theorem dX10_keeps_150 : decode cX10_keeps 150 = .ok (.iload 5, 2) := by decide +kernel
theorem dX10_keeps_152 : decode cX10_keeps 152 = .ok (.if_icmp .gt 73, 3) := by decide +kernel
theorem dX10_keeps_155 : decode cX10_keeps 155 = .ok (.aload_n 0, 1) := by decide +kernel
theorem dX10_keeps_156 : decode cX10_keeps 156 = .ok (.iconst 0, 1) := by decide +kernel
theorem dX10_keeps_157 : decode cX10_keeps 157 = .ok (.aload_n 0, 1) := by decide +kernel
theorem dX10_keeps_158 : decode cX10_keeps 158 = .ok (.getfield 69, 3) := by decide +kernel
theorem dX10_keeps_161 : decode cX10_keeps 161 = .ok (.iload_n 1, 1) := by decide +kernel
theorem dX10_keeps_162 : decode cX10_keeps 162 = .ok (.iaload, 1) := by decide +kernel
theorem dX10_keeps_163 : decode cX10_keeps 163 = .ok (.iload 6, 2) := by decide +kernel
theorem dX10_keeps_165 : decode cX10_keeps 165 = .ok (.invokevirtual 225, 3) := by decide +kernel
theorem dX10_keeps_168 : decode cX10_keeps 168 = .ok (.aload_n 0, 1) := by decide +kernel
theorem dX10_keeps_169 : decode cX10_keeps 169 = .ok (.invokevirtual 229, 3) := by decide +kernel
theorem dX10_keeps_172 : decode cX10_keeps 172 = .ok (.ifCond .eq 37, 3) := by decide +kernel
theorem dX10_keeps_175 : decode cX10_keeps 175 = .ok (.aload_n 0, 1) := by decide +kernel
theorem dX10_keeps_176 : decode cX10_keeps 176 = .ok (.iload_n 1, 1) := by decide +kernel
theorem dX10_keeps_177 : decode cX10_keeps 177 = .ok (.aload_n 0, 1) := by decide +kernel
theorem dX10_keeps_178 : decode cX10_keeps 178 = .ok (.getfield 59, 3) := by decide +kernel
theorem dX10_keeps_181 : decode cX10_keeps 181 = .ok (.iload 6, 2) := by decide +kernel
theorem dX10_keeps_183 : decode cX10_keeps 183 = .ok (.invokevirtual 241, 3) := by decide +kernel
theorem dX10_keeps_186 : decode cX10_keeps 186 = .ok (.aload_n 0, 1) := by decide +kernel
theorem dX10_keeps_187 : decode cX10_keeps 187 = .ok (.invokevirtual 244, 3) := by decide +kernel
theorem dX10_keeps_190 : decode cX10_keeps 190 = .ok (.ifCond .ne 6, 3) := by decide +kernel
theorem dX10_keeps_193 : decode cX10_keeps 193 = .ok (.goto (-25), 3) := by decide +kernel
theorem dX10_keeps_196 : decode cX10_keeps 196 = .ok (.aload_n 0, 1) := by decide +kernel
theorem dX10_keeps_197 : decode cX10_keeps 197 = .ok (.iload_n 2, 1) := by decide +kernel
theorem dX10_keeps_198 : decode cX10_keeps 198 = .ok (.aload_n 0, 1) := by decide +kernel
theorem dX10_keeps_199 : decode cX10_keeps 199 = .ok (.getfield 59, 3) := by decide +kernel
theorem dX10_keeps_202 : decode cX10_keeps 202 = .ok (.iload 6, 2) := by decide +kernel
theorem dX10_keeps_204 : decode cX10_keeps 204 = .ok (.invokevirtual 232, 3) := by decide +kernel
theorem dX10_keeps_207 : decode cX10_keeps 207 = .ok (.iconst 0, 1) := by decide +kernel
theorem dX10_keeps_208 : decode cX10_keeps 208 = .ok (.ireturn, 1) := by decide +kernel
theorem dX10_keeps_209 : decode cX10_keeps 209 = .ok (.aload_n 0, 1) := by decide +kernel
theorem dX10_keeps_210 : decode cX10_keeps 210 = .ok (.getfield 208, 3) := by decide +kernel
theorem dX10_keeps_213 : decode cX10_keeps 213 = .ok (.ifCond .eq 6, 3) := by decide +kernel
theorem dX10_keeps_216 : decode cX10_keeps 216 = .ok (.bipush (-2), 2) := by decide +kernel
theorem dX10_keeps_218 : decode cX10_keeps 218 = .ok (.ireturn, 1) := by decide +kernel
theorem dX10_keeps_219 : decode cX10_keeps 219 = .ok (.iinc 6 1, 3) := by decide +kernel
theorem dX10_keeps_222 : decode cX10_keeps 222 = .ok (.goto (-74), 3) := by decide +kernel
theorem dX10_keeps_225 : decode cX10_keeps 225 = .ok (.iconst 1, 1) := by decide +kernel
theorem dX10_keeps_226 : decode cX10_keeps 226 = .ok (.ireturn, 1) := by decide +kernel
theorem dX10_at_0 : decode cX10_at 0 = .ok (.aload_n 0, 1) := by decide +kernel
theorem dX10_at_1 : decode cX10_at 1 = .ok (.iconst 0, 1) := by decide +kernel
theorem dX10_at_2 : decode cX10_at 2 = .ok (.putfield 1, 3) := by decide +kernel
theorem dX10_at_5 : decode cX10_at 5 = .ok (.aload_n 0, 1) := by decide +kernel
theorem dX10_at_6 : decode cX10_at 6 = .ok (.iload_n 1, 1) := by decide +kernel
theorem dX10_at_7 : decode cX10_at 7 = .ok (.invokevirtual 238, 3) := by decide +kernel
theorem dX10_at_10 : decode cX10_at 10 = .ok (.ifCond .ne 5, 3) := by decide +kernel
theorem dX10_at_13 : decode cX10_at 13 = .ok (.iconst 0, 1) := by decide +kernel
theorem dX10_at_14 : decode cX10_at 14 = .ok (.ireturn, 1) := by decide +kernel
theorem dX10_at_15 : decode cX10_at 15 = .ok (.aload_n 0, 1) := by decide +kernel
theorem dX10_at_16 : decode cX10_at 16 = .ok (.getfield 69, 3) := by decide +kernel
theorem dX10_at_19 : decode cX10_at 19 = .ok (.iload_n 1, 1) := by decide +kernel
theorem dX10_at_20 : decode cX10_at 20 = .ok (.iaload, 1) := by decide +kernel
theorem dX10_at_21 : decode cX10_at 21 = .ok (.istore 4, 2) := by decide +kernel
theorem dX10_at_23 : decode cX10_at 23 = .ok (.iload_n 2, 1) := by decide +kernel
theorem dX10_at_24 : decode cX10_at 24 = .ok (.ifCond .lt 31, 3) := by decide +kernel
theorem dX10_at_27 : decode cX10_at 27 = .ok (.iload_n 2, 1) := by decide +kernel
theorem dX10_at_28 : decode cX10_at 28 = .ok (.iload 4, 2) := by decide +kernel
theorem dX10_at_30 : decode cX10_at 30 = .ok (.if_icmp .ge 25, 3) := by decide +kernel
theorem dX10_at_33 : decode cX10_at 33 = .ok (.iload_n 3, 1) := by decide +kernel
theorem dX10_at_34 : decode cX10_at 34 = .ok (.ifCond .lt 21, 3) := by decide +kernel
theorem dX10_at_37 : decode cX10_at 37 = .ok (.aload_n 0, 1) := by decide +kernel
theorem dX10_at_38 : decode cX10_at 38 = .ok (.getfield 75, 3) := by decide +kernel
theorem dX10_at_41 : decode cX10_at 41 = .ok (.bipush 20, 2) := by decide +kernel
theorem dX10_at_43 : decode cX10_at 43 = .ok (.bipush 8, 2) := by decide +kernel
theorem dX10_at_45 : decode cX10_at 45 = .ok (.iload_n 1, 1) := by decide +kernel
theorem dX10_at_46 : decode cX10_at 46 = .ok (.imul, 1) := by decide +kernel
theorem dX10_at_47 : decode cX10_at 47 = .ok (.iload_n 2, 1) := by decide +kernel
theorem dX10_at_48 : decode cX10_at 48 = .ok (.iadd, 1) := by decide +kernel
theorem dX10_at_49 : decode cX10_at 49 = .ok (.imul, 1) := by decide +kernel
theorem dX10_at_50 : decode cX10_at 50 = .ok (.iaload, 1) := by decide +kernel
theorem dX10_at_51 : decode cX10_at 51 = .ok (.iload_n 2, 1) := by decide +kernel
theorem dX10_at_52 : decode cX10_at 52 = .ok (.if_icmp .eq 5, 3) := by decide +kernel
theorem dX10_at_55 : decode cX10_at 55 = .ok (.iconst (-1), 1) := by decide +kernel
theorem dX10_at_56 : decode cX10_at 56 = .ok (.ireturn, 1) := by decide +kernel
theorem dX10_at_57 : decode cX10_at 57 = .ok (.iconst 0, 1) := by decide +kernel
theorem dX10_at_58 : decode cX10_at 58 = .ok (.istore 5, 2) := by decide +kernel
theorem dX10_at_60 : decode cX10_at 60 = .ok (.iload 5, 2) := by decide +kernel
theorem dX10_at_62 : decode cX10_at 62 = .ok (.iload 4, 2) := by decide +kernel
theorem dX10_at_64 : decode cX10_at 64 = .ok (.if_icmp .ge 27, 3) := by decide +kernel
theorem dX10_at_67 : decode cX10_at 67 = .ok (.aload_n 0, 1) := by decide +kernel
theorem dX10_at_68 : decode cX10_at 68 = .ok (.getfield 72, 3) := by decide +kernel
theorem dX10_at_71 : decode cX10_at 71 = .ok (.bipush 8, 2) := by decide +kernel
theorem dX10_at_73 : decode cX10_at 73 = .ok (.iload_n 1, 1) := by decide +kernel
theorem dX10_at_74 : decode cX10_at 74 = .ok (.imul, 1) := by decide +kernel
theorem dX10_at_75 : decode cX10_at 75 = .ok (.iload 5, 2) := by decide +kernel
theorem dX10_at_77 : decode cX10_at 77 = .ok (.iadd, 1) := by decide +kernel
theorem dX10_at_78 : decode cX10_at 78 = .ok (.iaload, 1) := by decide +kernel
theorem dX10_at_79 : decode cX10_at 79 = .ok (.iconst 2, 1) := by decide +kernel
theorem dX10_at_80 : decode cX10_at 80 = .ok (.if_icmp .ge 5, 3) := by decide +kernel
theorem dX10_at_83 : decode cX10_at 83 = .ok (.iconst (-1), 1) := by decide +kernel
theorem dX10_at_84 : decode cX10_at 84 = .ok (.ireturn, 1) := by decide +kernel
theorem dX10_at_85 : decode cX10_at 85 = .ok (.iinc 5 1, 3) := by decide +kernel
theorem dX10_at_88 : decode cX10_at 88 = .ok (.goto (-28), 3) := by decide +kernel
theorem dX10_at_91 : decode cX10_at 91 = .ok (.iconst 0, 1) := by decide +kernel
theorem dX10_at_92 : decode cX10_at 92 = .ok (.istore 5, 2) := by decide +kernel
theorem dX10_at_94 : decode cX10_at 94 = .ok (.iload 5, 2) := by decide +kernel
theorem dX10_at_96 : decode cX10_at 96 = .ok (.iload 4, 2) := by decide +kernel
theorem dX10_at_98 : decode cX10_at 98 = .ok (.if_icmp .ge 17, 3) := by decide +kernel
theorem dX10_at_101 : decode cX10_at 101 = .ok (.aload_n 0, 1) := by decide +kernel
theorem dX10_at_102 : decode cX10_at 102 = .ok (.getfield 81, 3) := by decide +kernel
theorem dX10_at_105 : decode cX10_at 105 = .ok (.iload 5, 2) := by decide +kernel
theorem dX10_at_107 : decode cX10_at 107 = .ok (.lconst 1, 1) := by decide +kernel
theorem dX10_at_108 : decode cX10_at 108 = .ok (.lastore, 1) := by decide +kernel
theorem dX10_at_109 : decode cX10_at 109 = .ok (.iinc 5 1, 3) := by decide +kernel
theorem dX10_at_112 : decode cX10_at 112 = .ok (.goto (-18), 3) := by decide +kernel
theorem dX10_at_115 : decode cX10_at 115 = .ok (.iconst 0, 1) := by decide +kernel
theorem dX10_at_116 : decode cX10_at 116 = .ok (.istore 5, 2) := by decide +kernel
theorem dX10_at_118 : decode cX10_at 118 = .ok (.aload_n 0, 1) := by decide +kernel
theorem dX10_at_119 : decode cX10_at 119 = .ok (.getfield 81, 3) := by decide +kernel
theorem dX10_at_122 : decode cX10_at 122 = .ok (.bipush 8, 2) := by decide +kernel
theorem dX10_at_124 : decode cX10_at 124 = .ok (.iload 5, 2) := by decide +kernel
theorem dX10_at_126 : decode cX10_at 126 = .ok (.imul, 1) := by decide +kernel
theorem dX10_at_127 : decode cX10_at 127 = .ok (.iload_n 2, 1) := by decide +kernel
theorem dX10_at_128 : decode cX10_at 128 = .ok (.iadd, 1) := by decide +kernel
theorem dX10_at_129 : decode cX10_at 129 = .ok (.laload, 1) := by decide +kernel
theorem dX10_at_130 : decode cX10_at 130 = .ok (.iload_n 3, 1) := by decide +kernel
theorem dX10_at_131 : decode cX10_at 131 = .ok (.i2l, 1) := by decide +kernel
theorem dX10_at_132 : decode cX10_at 132 = .ok (.lcmp, 1) := by decide +kernel
theorem dX10_at_133 : decode cX10_at 133 = .ok (.ifCond .gt 106, 3) := by decide +kernel
theorem dX10_at_136 : decode cX10_at 136 = .ok (.iconst 0, 1) := by decide +kernel
theorem dX10_at_137 : decode cX10_at 137 = .ok (.istore 6, 2) := by decide +kernel
theorem dX10_at_139 : decode cX10_at 139 = .ok (.iload 6, 2) := by decide +kernel
theorem dX10_at_141 : decode cX10_at 141 = .ok (.iload 4, 2) := by decide +kernel
theorem dX10_at_143 : decode cX10_at 143 = .ok (.if_icmp .ge 90, 3) := by decide +kernel
theorem dX10_at_146 : decode cX10_at 146 = .ok (.lconst 0, 1) := by decide +kernel
theorem dX10_at_147 : decode cX10_at 147 = .ok (.lstore 7, 2) := by decide +kernel
theorem dX10_at_149 : decode cX10_at 149 = .ok (.iconst 0, 1) := by decide +kernel
theorem dX10_at_150 : decode cX10_at 150 = .ok (.istore 9, 2) := by decide +kernel
theorem dX10_at_152 : decode cX10_at 152 = .ok (.iload 9, 2) := by decide +kernel
theorem dX10_at_154 : decode cX10_at 154 = .ok (.aload_n 0, 1) := by decide +kernel
theorem dX10_at_155 : decode cX10_at 155 = .ok (.getfield 72, 3) := by decide +kernel
theorem dX10_at_158 : decode cX10_at 158 = .ok (.bipush 8, 2) := by decide +kernel
theorem dX10_at_160 : decode cX10_at 160 = .ok (.iload_n 1, 1) := by decide +kernel
theorem dX10_at_161 : decode cX10_at 161 = .ok (.imul, 1) := by decide +kernel
theorem dX10_at_162 : decode cX10_at 162 = .ok (.iload 6, 2) := by decide +kernel
theorem dX10_at_164 : decode cX10_at 164 = .ok (.iadd, 1) := by decide +kernel
theorem dX10_at_165 : decode cX10_at 165 = .ok (.iaload, 1) := by decide +kernel
theorem dX10_at_166 : decode cX10_at 166 = .ok (.if_icmp .ge 43, 3) := by decide +kernel
theorem dX10_at_169 : decode cX10_at 169 = .ok (.lload 7, 2) := by decide +kernel
theorem dX10_at_171 : decode cX10_at 171 = .ok (.aload_n 0, 1) := by decide +kernel
theorem dX10_at_172 : decode cX10_at 172 = .ok (.getfield 81, 3) := by decide +kernel
theorem dX10_at_175 : decode cX10_at 175 = .ok (.bipush 8, 2) := by decide +kernel
theorem dX10_at_177 : decode cX10_at 177 = .ok (.iload 5, 2) := by decide +kernel
theorem dX10_at_179 : decode cX10_at 179 = .ok (.imul, 1) := by decide +kernel
theorem dX10_at_180 : decode cX10_at 180 = .ok (.aload_n 0, 1) := by decide +kernel
theorem dX10_at_181 : decode cX10_at 181 = .ok (.getfield 75, 3) := by decide +kernel
theorem dX10_at_184 : decode cX10_at 184 = .ok (.bipush 20, 2) := by decide +kernel
theorem dX10_at_186 : decode cX10_at 186 = .ok (.bipush 8, 2) := by decide +kernel
theorem dX10_at_188 : decode cX10_at 188 = .ok (.iload_n 1, 1) := by decide +kernel
theorem dX10_at_189 : decode cX10_at 189 = .ok (.imul, 1) := by decide +kernel
theorem dX10_at_190 : decode cX10_at 190 = .ok (.iload 6, 2) := by decide +kernel
theorem dX10_at_192 : decode cX10_at 192 = .ok (.iadd, 1) := by decide +kernel
theorem dX10_at_193 : decode cX10_at 193 = .ok (.imul, 1) := by decide +kernel
theorem dX10_at_194 : decode cX10_at 194 = .ok (.iload 9, 2) := by decide +kernel
theorem dX10_at_196 : decode cX10_at 196 = .ok (.iadd, 1) := by decide +kernel
theorem dX10_at_197 : decode cX10_at 197 = .ok (.iaload, 1) := by decide +kernel
theorem dX10_at_198 : decode cX10_at 198 = .ok (.iadd, 1) := by decide +kernel
theorem dX10_at_199 : decode cX10_at 199 = .ok (.laload, 1) := by decide +kernel
theorem dX10_at_200 : decode cX10_at 200 = .ok (.ladd, 1) := by decide +kernel
theorem dX10_at_201 : decode cX10_at 201 = .ok (.lstore 7, 2) := by decide +kernel
theorem dX10_at_203 : decode cX10_at 203 = .ok (.iinc 9 1, 3) := by decide +kernel
theorem dX10_at_206 : decode cX10_at 206 = .ok (.goto (-54), 3) := by decide +kernel
theorem dX10_at_209 : decode cX10_at 209 = .ok (.aload_n 0, 1) := by decide +kernel
theorem dX10_at_210 : decode cX10_at 210 = .ok (.getfield 81, 3) := by decide +kernel
theorem dX10_at_213 : decode cX10_at 213 = .ok (.bipush 8, 2) := by decide +kernel
theorem dX10_at_215 : decode cX10_at 215 = .ok (.iload 5, 2) := by decide +kernel
theorem dX10_at_217 : decode cX10_at 217 = .ok (.imul, 1) := by decide +kernel
theorem dX10_at_218 : decode cX10_at 218 = .ok (.bipush 8, 2) := by decide +kernel
theorem dX10_at_220 : decode cX10_at 220 = .ok (.iadd, 1) := by decide +kernel
theorem dX10_at_221 : decode cX10_at 221 = .ok (.iload 6, 2) := by decide +kernel
theorem dX10_at_223 : decode cX10_at 223 = .ok (.iadd, 1) := by decide +kernel
theorem dX10_at_224 : decode cX10_at 224 = .ok (.lload 7, 2) := by decide +kernel
theorem dX10_at_226 : decode cX10_at 226 = .ok (.lastore, 1) := by decide +kernel
theorem dX10_at_227 : decode cX10_at 227 = .ok (.iinc 6 1, 3) := by decide +kernel
theorem dX10_at_230 : decode cX10_at 230 = .ok (.goto (-91), 3) := by decide +kernel
theorem dX10_at_233 : decode cX10_at 233 = .ok (.iinc 5 1, 3) := by decide +kernel
theorem dX10_at_236 : decode cX10_at 236 = .ok (.goto (-118), 3) := by decide +kernel
theorem dX10_at_239 : decode cX10_at 239 = .ok (.iload_n 2, 1) := by decide +kernel
theorem dX10_at_240 : decode cX10_at 240 = .ok (.istore 6, 2) := by decide +kernel
theorem dX10_at_242 : decode cX10_at 242 = .ok (.iload_n 3, 1) := by decide +kernel
theorem dX10_at_243 : decode cX10_at 243 = .ok (.i2l, 1) := by decide +kernel
theorem dX10_at_244 : decode cX10_at 244 = .ok (.lstore 7, 2) := by decide +kernel
theorem dX10_at_246 : decode cX10_at 246 = .ok (.iload 5, 2) := by decide +kernel
theorem dX10_at_248 : decode cX10_at 248 = .ok (.iconst 1, 1) := by decide +kernel
theorem dX10_at_249 : decode cX10_at 249 = .ok (.isub, 1) := by decide +kernel
theorem dX10_at_250 : decode cX10_at 250 = .ok (.istore 9, 2) := by decide +kernel
theorem dX10_at_252 : decode cX10_at 252 = .ok (.iload 9, 2) := by decide +kernel
theorem dX10_at_254 : decode cX10_at 254 = .ok (.ifCond .lt 95, 3) := by decide +kernel
theorem dX10_at_257 : decode cX10_at 257 = .ok (.bipush 20, 2) := by decide +kernel
theorem dX10_at_259 : decode cX10_at 259 = .ok (.bipush 8, 2) := by decide +kernel
theorem dX10_at_261 : decode cX10_at 261 = .ok (.iload_n 1, 1) := by decide +kernel
theorem dX10_at_262 : decode cX10_at 262 = .ok (.imul, 1) := by decide +kernel
theorem dX10_at_263 : decode cX10_at 263 = .ok (.iload 6, 2) := by decide +kernel
theorem dX10_at_265 : decode cX10_at 265 = .ok (.iadd, 1) := by decide +kernel
theorem dX10_at_266 : decode cX10_at 266 = .ok (.imul, 1) := by decide +kernel
theorem dX10_at_267 : decode cX10_at 267 = .ok (.istore 10, 2) := by decide +kernel
theorem dX10_at_269 : decode cX10_at 269 = .ok (.iconst 0, 1) := by decide +kernel
theorem dX10_at_270 : decode cX10_at 270 = .ok (.istore 11, 2) := by decide +kernel
theorem dX10_at_272 : decode cX10_at 272 = .ok (.lload 7, 2) := by decide +kernel
theorem dX10_at_274 : decode cX10_at 274 = .ok (.aload_n 0, 1) := by decide +kernel
theorem dX10_at_275 : decode cX10_at 275 = .ok (.getfield 81, 3) := by decide +kernel
theorem dX10_at_278 : decode cX10_at 278 = .ok (.bipush 8, 2) := by decide +kernel
theorem dX10_at_280 : decode cX10_at 280 = .ok (.iload 9, 2) := by decide +kernel
theorem dX10_at_282 : decode cX10_at 282 = .ok (.imul, 1) := by decide +kernel
theorem dX10_at_283 : decode cX10_at 283 = .ok (.aload_n 0, 1) := by decide +kernel
theorem dX10_at_284 : decode cX10_at 284 = .ok (.getfield 75, 3) := by decide +kernel
theorem dX10_at_287 : decode cX10_at 287 = .ok (.iload 10, 2) := by decide +kernel
theorem dX10_at_289 : decode cX10_at 289 = .ok (.iload 11, 2) := by decide +kernel
theorem dX10_at_291 : decode cX10_at 291 = .ok (.iadd, 1) := by decide +kernel
theorem dX10_at_292 : decode cX10_at 292 = .ok (.iaload, 1) := by decide +kernel
theorem dX10_at_293 : decode cX10_at 293 = .ok (.iadd, 1) := by decide +kernel
theorem dX10_at_294 : decode cX10_at 294 = .ok (.laload, 1) := by decide +kernel
theorem dX10_at_295 : decode cX10_at 295 = .ok (.lcmp, 1) := by decide +kernel
theorem dX10_at_296 : decode cX10_at 296 = .ok (.ifCond .lt 35, 3) := by decide +kernel
theorem dX10_at_299 : decode cX10_at 299 = .ok (.lload 7, 2) := by decide +kernel
theorem dX10_at_301 : decode cX10_at 301 = .ok (.aload_n 0, 1) := by decide +kernel
theorem dX10_at_302 : decode cX10_at 302 = .ok (.getfield 81, 3) := by decide +kernel
theorem dX10_at_305 : decode cX10_at 305 = .ok (.bipush 8, 2) := by decide +kernel
theorem dX10_at_307 : decode cX10_at 307 = .ok (.iload 9, 2) := by decide +kernel
theorem dX10_at_309 : decode cX10_at 309 = .ok (.imul, 1) := by decide +kernel
theorem dX10_at_310 : decode cX10_at 310 = .ok (.aload_n 0, 1) := by decide +kernel
theorem dX10_at_311 : decode cX10_at 311 = .ok (.getfield 75, 3) := by decide +kernel
theorem dX10_at_314 : decode cX10_at 314 = .ok (.iload 10, 2) := by decide +kernel
theorem dX10_at_316 : decode cX10_at 316 = .ok (.iload 11, 2) := by decide +kernel
theorem dX10_at_318 : decode cX10_at 318 = .ok (.iadd, 1) := by decide +kernel
theorem dX10_at_319 : decode cX10_at 319 = .ok (.iaload, 1) := by decide +kernel
theorem dX10_at_320 : decode cX10_at 320 = .ok (.iadd, 1) := by decide +kernel
theorem dX10_at_321 : decode cX10_at 321 = .ok (.laload, 1) := by decide +kernel
theorem dX10_at_322 : decode cX10_at 322 = .ok (.lsub, 1) := by decide +kernel
theorem dX10_at_323 : decode cX10_at 323 = .ok (.lstore 7, 2) := by decide +kernel
theorem dX10_at_325 : decode cX10_at 325 = .ok (.iinc 11 1, 3) := by decide +kernel
theorem dX10_at_328 : decode cX10_at 328 = .ok (.goto (-56), 3) := by decide +kernel
theorem dX10_at_331 : decode cX10_at 331 = .ok (.aload_n 0, 1) := by decide +kernel
theorem dX10_at_332 : decode cX10_at 332 = .ok (.getfield 75, 3) := by decide +kernel
theorem dX10_at_335 : decode cX10_at 335 = .ok (.iload 10, 2) := by decide +kernel
theorem dX10_at_337 : decode cX10_at 337 = .ok (.iload 11, 2) := by decide +kernel
theorem dX10_at_339 : decode cX10_at 339 = .ok (.iadd, 1) := by decide +kernel
theorem dX10_at_340 : decode cX10_at 340 = .ok (.iaload, 1) := by decide +kernel
theorem dX10_at_341 : decode cX10_at 341 = .ok (.istore 6, 2) := by decide +kernel
theorem dX10_at_343 : decode cX10_at 343 = .ok (.iinc 9 (-1), 3) := by decide +kernel
theorem dX10_at_346 : decode cX10_at 346 = .ok (.goto (-94), 3) := by decide +kernel
theorem dX10_at_349 : decode cX10_at 349 = .ok (.iload 6, 2) := by decide +kernel
theorem dX10_at_351 : decode cX10_at 351 = .ok (.ireturn, 1) := by decide +kernel
theorem dX10_isLoose_0 : decode cX10_isLoose 0 = .ok (.iconst 0, 1) := by decide +kernel
theorem dX10_isLoose_1 : decode cX10_isLoose 1 = .ok (.istore_n 3, 1) := by decide +kernel
theorem dX10_isLoose_2 : decode cX10_isLoose 2 = .ok (.iconst 0, 1) := by decide +kernel
theorem dX10_isLoose_3 : decode cX10_isLoose 3 = .ok (.istore 4, 2) := by decide +kernel
theorem dX10_isLoose_5 : decode cX10_isLoose 5 = .ok (.iload 4, 2) := by decide +kernel
theorem dX10_isLoose_7 : decode cX10_isLoose 7 = .ok (.aload_n 0, 1) := by decide +kernel
theorem dX10_isLoose_8 : decode cX10_isLoose 8 = .ok (.getfield 88, 3) := by decide +kernel
theorem dX10_isLoose_11 : decode cX10_isLoose 11 = .ok (.iload_n 1, 1) := by decide +kernel
theorem dX10_isLoose_12 : decode cX10_isLoose 12 = .ok (.iaload, 1) := by decide +kernel
theorem dX10_isLoose_13 : decode cX10_isLoose 13 = .ok (.if_icmp .ge 26, 3) := by decide +kernel
theorem dX10_isLoose_16 : decode cX10_isLoose 16 = .ok (.iload_n 3, 1) := by decide +kernel
theorem dX10_isLoose_17 : decode cX10_isLoose 17 = .ok (.iconst 1, 1) := by decide +kernel
theorem dX10_isLoose_18 : decode cX10_isLoose 18 = .ok (.aload_n 0, 1) := by decide +kernel
theorem dX10_isLoose_19 : decode cX10_isLoose 19 = .ok (.getfield 85, 3) := by decide +kernel
theorem dX10_isLoose_22 : decode cX10_isLoose 22 = .ok (.bipush 7, 2) := by decide +kernel
theorem dX10_isLoose_24 : decode cX10_isLoose 24 = .ok (.iload_n 1, 1) := by decide +kernel
theorem dX10_isLoose_25 : decode cX10_isLoose 25 = .ok (.imul, 1) := by decide +kernel
theorem dX10_isLoose_26 : decode cX10_isLoose 26 = .ok (.iload 4, 2) := by decide +kernel
theorem dX10_isLoose_28 : decode cX10_isLoose 28 = .ok (.iadd, 1) := by decide +kernel
theorem dX10_isLoose_29 : decode cX10_isLoose 29 = .ok (.iaload, 1) := by decide +kernel
theorem dX10_isLoose_30 : decode cX10_isLoose 30 = .ok (.ishl, 1) := by decide +kernel
theorem dX10_isLoose_31 : decode cX10_isLoose 31 = .ok (.ior, 1) := by decide +kernel
theorem dX10_isLoose_32 : decode cX10_isLoose 32 = .ok (.istore_n 3, 1) := by decide +kernel
theorem dX10_isLoose_33 : decode cX10_isLoose 33 = .ok (.iinc 4 1, 3) := by decide +kernel
theorem dX10_isLoose_36 : decode cX10_isLoose 36 = .ok (.goto (-31), 3) := by decide +kernel
theorem dX10_isLoose_39 : decode cX10_isLoose 39 = .ok (.iload_n 2, 1) := by decide +kernel
theorem dX10_isLoose_40 : decode cX10_isLoose 40 = .ok (.ifCond .eq 11, 3) := by decide +kernel
theorem dX10_isLoose_43 : decode cX10_isLoose 43 = .ok (.iload_n 2, 1) := by decide +kernel
theorem dX10_isLoose_44 : decode cX10_isLoose 44 = .ok (.iload_n 3, 1) := by decide +kernel
theorem dX10_isLoose_45 : decode cX10_isLoose 45 = .ok (.iconst (-1), 1) := by decide +kernel
theorem dX10_isLoose_46 : decode cX10_isLoose 46 = .ok (.ixor, 1) := by decide +kernel
theorem dX10_isLoose_47 : decode cX10_isLoose 47 = .ok (.iand, 1) := by decide +kernel
theorem dX10_isLoose_48 : decode cX10_isLoose 48 = .ok (.ifCond .eq 5, 3) := by decide +kernel
theorem dX10_isLoose_51 : decode cX10_isLoose 51 = .ok (.iconst 0, 1) := by decide +kernel
theorem dX10_isLoose_52 : decode cX10_isLoose 52 = .ok (.ireturn, 1) := by decide +kernel
theorem dX10_isLoose_53 : decode cX10_isLoose 53 = .ok (.iconst 0, 1) := by decide +kernel
theorem dX10_isLoose_54 : decode cX10_isLoose 54 = .ok (.istore 4, 2) := by decide +kernel
theorem dX10_isLoose_56 : decode cX10_isLoose 56 = .ok (.iload 4, 2) := by decide +kernel
theorem dX10_isLoose_58 : decode cX10_isLoose 58 = .ok (.bipush 6, 2) := by decide +kernel
theorem dX10_isLoose_60 : decode cX10_isLoose 60 = .ok (.if_icmp .ge 18, 3) := by decide +kernel
theorem dX10_isLoose_63 : decode cX10_isLoose 63 = .ok (.aload_n 0, 1) := by decide +kernel
theorem dX10_isLoose_64 : decode cX10_isLoose 64 = .ok (.getfield 94, 3) := by decide +kernel
theorem dX10_isLoose_67 : decode cX10_isLoose 67 = .ok (.iload 4, 2) := by decide +kernel
theorem dX10_isLoose_69 : decode cX10_isLoose 69 = .ok (.iload 4, 2) := by decide +kernel
theorem dX10_isLoose_71 : decode cX10_isLoose 71 = .ok (.iastore, 1) := by decide +kernel
theorem dX10_isLoose_72 : decode cX10_isLoose 72 = .ok (.iinc 4 1, 3) := by decide +kernel
theorem dX10_isLoose_75 : decode cX10_isLoose 75 = .ok (.goto (-19), 3) := by decide +kernel
theorem dX10_isLoose_78 : decode cX10_isLoose 78 = .ok (.iconst 0, 1) := by decide +kernel
theorem dX10_isLoose_79 : decode cX10_isLoose 79 = .ok (.istore 4, 2) := by decide +kernel
theorem dX10_isLoose_81 : decode cX10_isLoose 81 = .ok (.iload 4, 2) := by decide +kernel
theorem dX10_isLoose_83 : decode cX10_isLoose 83 = .ok (.iconst 1, 1) := by decide +kernel
theorem dX10_isLoose_84 : decode cX10_isLoose 84 = .ok (.iadd, 1) := by decide +kernel
theorem dX10_isLoose_85 : decode cX10_isLoose 85 = .ok (.aload_n 0, 1) := by decide +kernel
theorem dX10_isLoose_86 : decode cX10_isLoose 86 = .ok (.getfield 88, 3) := by decide +kernel
theorem dX10_isLoose_89 : decode cX10_isLoose 89 = .ok (.iload_n 1, 1) := by decide +kernel
theorem dX10_isLoose_90 : decode cX10_isLoose 90 = .ok (.iaload, 1) := by decide +kernel
theorem dX10_isLoose_91 : decode cX10_isLoose 91 = .ok (.if_icmp .ge 98, 3) := by decide +kernel
theorem dX10_isLoose_94 : decode cX10_isLoose 94 = .ok (.aload_n 0, 1) := by decide +kernel
theorem dX10_isLoose_95 : decode cX10_isLoose 95 = .ok (.getfield 94, 3) := by decide +kernel
theorem dX10_isLoose_98 : decode cX10_isLoose 98 = .ok (.iconst 3, 1) := by decide +kernel
theorem dX10_isLoose_99 : decode cX10_isLoose 99 = .ok (.aload_n 0, 1) := by decide +kernel
theorem dX10_isLoose_100 : decode cX10_isLoose 100 = .ok (.getfield 85, 3) := by decide +kernel
theorem dX10_isLoose_103 : decode cX10_isLoose 103 = .ok (.bipush 7, 2) := by decide +kernel
theorem dX10_isLoose_105 : decode cX10_isLoose 105 = .ok (.iload_n 1, 1) := by decide +kernel
theorem dX10_isLoose_106 : decode cX10_isLoose 106 = .ok (.imul, 1) := by decide +kernel
theorem dX10_isLoose_107 : decode cX10_isLoose 107 = .ok (.iload 4, 2) := by decide +kernel
theorem dX10_isLoose_109 : decode cX10_isLoose 109 = .ok (.iadd, 1) := by decide +kernel
theorem dX10_isLoose_110 : decode cX10_isLoose 110 = .ok (.iaload, 1) := by decide +kernel
theorem dX10_isLoose_111 : decode cX10_isLoose 111 = .ok (.iadd, 1) := by decide +kernel
theorem dX10_isLoose_112 : decode cX10_isLoose 112 = .ok (.iaload, 1) := by decide +kernel
theorem dX10_isLoose_113 : decode cX10_isLoose 113 = .ok (.istore 5, 2) := by decide +kernel
theorem dX10_isLoose_115 : decode cX10_isLoose 115 = .ok (.aload_n 0, 1) := by decide +kernel
theorem dX10_isLoose_116 : decode cX10_isLoose 116 = .ok (.getfield 94, 3) := by decide +kernel
theorem dX10_isLoose_119 : decode cX10_isLoose 119 = .ok (.aload_n 0, 1) := by decide +kernel
theorem dX10_isLoose_120 : decode cX10_isLoose 120 = .ok (.getfield 85, 3) := by decide +kernel
theorem dX10_isLoose_123 : decode cX10_isLoose 123 = .ok (.bipush 7, 2) := by decide +kernel
theorem dX10_isLoose_125 : decode cX10_isLoose 125 = .ok (.iload_n 1, 1) := by decide +kernel
theorem dX10_isLoose_126 : decode cX10_isLoose 126 = .ok (.imul, 1) := by decide +kernel
theorem dX10_isLoose_127 : decode cX10_isLoose 127 = .ok (.iload 4, 2) := by decide +kernel
theorem dX10_isLoose_129 : decode cX10_isLoose 129 = .ok (.iadd, 1) := by decide +kernel
theorem dX10_isLoose_130 : decode cX10_isLoose 130 = .ok (.iconst 1, 1) := by decide +kernel
theorem dX10_isLoose_131 : decode cX10_isLoose 131 = .ok (.iadd, 1) := by decide +kernel
theorem dX10_isLoose_132 : decode cX10_isLoose 132 = .ok (.iaload, 1) := by decide +kernel
theorem dX10_isLoose_133 : decode cX10_isLoose 133 = .ok (.iaload, 1) := by decide +kernel
theorem dX10_isLoose_134 : decode cX10_isLoose 134 = .ok (.istore 6, 2) := by decide +kernel
theorem dX10_isLoose_136 : decode cX10_isLoose 136 = .ok (.iconst 0, 1) := by decide +kernel
theorem dX10_isLoose_137 : decode cX10_isLoose 137 = .ok (.istore 7, 2) := by decide +kernel
theorem dX10_isLoose_139 : decode cX10_isLoose 139 = .ok (.iload 7, 2) := by decide +kernel
theorem dX10_isLoose_141 : decode cX10_isLoose 141 = .ok (.bipush 6, 2) := by decide +kernel
theorem dX10_isLoose_143 : decode cX10_isLoose 143 = .ok (.if_icmp .ge 40, 3) := by decide +kernel
theorem dX10_isLoose_146 : decode cX10_isLoose 146 = .ok (.aload_n 0, 1) := by decide +kernel
theorem dX10_isLoose_147 : decode cX10_isLoose 147 = .ok (.getfield 94, 3) := by decide +kernel
theorem dX10_isLoose_150 : decode cX10_isLoose 150 = .ok (.iload 7, 2) := by decide +kernel
theorem dX10_isLoose_152 : decode cX10_isLoose 152 = .ok (.aload_n 0, 1) := by decide +kernel
theorem dX10_isLoose_153 : decode cX10_isLoose 153 = .ok (.getfield 94, 3) := by decide +kernel
theorem dX10_isLoose_156 : decode cX10_isLoose 156 = .ok (.iload 7, 2) := by decide +kernel
theorem dX10_isLoose_158 : decode cX10_isLoose 158 = .ok (.iaload, 1) := by decide +kernel
theorem dX10_isLoose_159 : decode cX10_isLoose 159 = .ok (.iload 5, 2) := by decide +kernel
theorem dX10_isLoose_161 : decode cX10_isLoose 161 = .ok (.if_icmp .ne 8, 3) := by decide +kernel
theorem dX10_isLoose_164 : decode cX10_isLoose 164 = .ok (.iload 6, 2) := by decide +kernel
theorem dX10_isLoose_166 : decode cX10_isLoose 166 = .ok (.goto 10, 3) := by decide +kernel
theorem dX10_isLoose_169 : decode cX10_isLoose 169 = .ok (.aload_n 0, 1) := by decide +kernel
theorem dX10_isLoose_170 : decode cX10_isLoose 170 = .ok (.getfield 94, 3) := by decide +kernel
theorem dX10_isLoose_173 : decode cX10_isLoose 173 = .ok (.iload 7, 2) := by decide +kernel
theorem dX10_isLoose_175 : decode cX10_isLoose 175 = .ok (.iaload, 1) := by decide +kernel
theorem dX10_isLoose_176 : decode cX10_isLoose 176 = .ok (.iastore, 1) := by decide +kernel
theorem dX10_isLoose_177 : decode cX10_isLoose 177 = .ok (.iinc 7 1, 3) := by decide +kernel
theorem dX10_isLoose_180 : decode cX10_isLoose 180 = .ok (.goto (-41), 3) := by decide +kernel
theorem dX10_isLoose_183 : decode cX10_isLoose 183 = .ok (.iinc 4 1, 3) := by decide +kernel
theorem dX10_isLoose_186 : decode cX10_isLoose 186 = .ok (.goto (-105), 3) := by decide +kernel
theorem dX10_isLoose_189 : decode cX10_isLoose 189 = .ok (.iconst 0, 1) := by decide +kernel
theorem dX10_isLoose_190 : decode cX10_isLoose 190 = .ok (.istore 4, 2) := by decide +kernel
theorem dX10_isLoose_192 : decode cX10_isLoose 192 = .ok (.iload 4, 2) := by decide +kernel
theorem dX10_isLoose_194 : decode cX10_isLoose 194 = .ok (.iconst 3, 1) := by decide +kernel
theorem dX10_isLoose_195 : decode cX10_isLoose 195 = .ok (.if_icmp .ge 65, 3) := by decide +kernel
theorem dX10_isLoose_198 : decode cX10_isLoose 198 = .ok (.iconst 0, 1) := by decide +kernel
theorem dX10_isLoose_199 : decode cX10_isLoose 199 = .ok (.istore 5, 2) := by decide +kernel
theorem dX10_isLoose_201 : decode cX10_isLoose 201 = .ok (.iload 5, 2) := by decide +kernel
theorem dX10_isLoose_203 : decode cX10_isLoose 203 = .ok (.iconst 3, 1) := by decide +kernel
theorem dX10_isLoose_204 : decode cX10_isLoose 204 = .ok (.if_icmp .ge 50, 3) := by decide +kernel
theorem dX10_isLoose_207 : decode cX10_isLoose 207 = .ok (.iload_n 2, 1) := by decide +kernel
theorem dX10_isLoose_208 : decode cX10_isLoose 208 = .ok (.iload 4, 2) := by decide +kernel
theorem dX10_isLoose_210 : decode cX10_isLoose 210 = .ok (.ishr, 1) := by decide +kernel
theorem dX10_isLoose_211 : decode cX10_isLoose 211 = .ok (.iconst 1, 1) := by decide +kernel
theorem dX10_isLoose_212 : decode cX10_isLoose 212 = .ok (.iand, 1) := by decide +kernel
theorem dX10_isLoose_213 : decode cX10_isLoose 213 = .ok (.iconst 1, 1) := by decide +kernel
theorem dX10_isLoose_214 : decode cX10_isLoose 214 = .ok (.if_icmp .ne 34, 3) := by decide +kernel
theorem dX10_isLoose_217 : decode cX10_isLoose 217 = .ok (.iload_n 2, 1) := by decide +kernel
theorem dX10_isLoose_218 : decode cX10_isLoose 218 = .ok (.iload 5, 2) := by decide +kernel
theorem dX10_isLoose_220 : decode cX10_isLoose 220 = .ok (.ishr, 1) := by decide +kernel
theorem dX10_isLoose_221 : decode cX10_isLoose 221 = .ok (.iconst 1, 1) := by decide +kernel
theorem dX10_isLoose_222 : decode cX10_isLoose 222 = .ok (.iand, 1) := by decide +kernel
theorem dX10_isLoose_223 : decode cX10_isLoose 223 = .ok (.iconst 1, 1) := by decide +kernel
theorem dX10_isLoose_224 : decode cX10_isLoose 224 = .ok (.if_icmp .ne 24, 3) := by decide +kernel
theorem dX10_isLoose_227 : decode cX10_isLoose 227 = .ok (.aload_n 0, 1) := by decide +kernel
theorem dX10_isLoose_228 : decode cX10_isLoose 228 = .ok (.getfield 94, 3) := by decide +kernel
theorem dX10_isLoose_231 : decode cX10_isLoose 231 = .ok (.iconst 3, 1) := by decide +kernel
theorem dX10_isLoose_232 : decode cX10_isLoose 232 = .ok (.iload 4, 2) := by decide +kernel
theorem dX10_isLoose_234 : decode cX10_isLoose 234 = .ok (.iadd, 1) := by decide +kernel
theorem dX10_isLoose_235 : decode cX10_isLoose 235 = .ok (.iaload, 1) := by decide +kernel
theorem dX10_isLoose_236 : decode cX10_isLoose 236 = .ok (.aload_n 0, 1) := by decide +kernel
theorem dX10_isLoose_237 : decode cX10_isLoose 237 = .ok (.getfield 94, 3) := by decide +kernel
theorem dX10_isLoose_240 : decode cX10_isLoose 240 = .ok (.iload 5, 2) := by decide +kernel
theorem dX10_isLoose_242 : decode cX10_isLoose 242 = .ok (.iaload, 1) := by decide +kernel
theorem dX10_isLoose_243 : decode cX10_isLoose 243 = .ok (.if_icmp .ne 5, 3) := by decide +kernel
theorem dX10_isLoose_246 : decode cX10_isLoose 246 = .ok (.iconst 0, 1) := by decide +kernel
theorem dX10_isLoose_247 : decode cX10_isLoose 247 = .ok (.ireturn, 1) := by decide +kernel
theorem dX10_isLoose_248 : decode cX10_isLoose 248 = .ok (.iinc 5 1, 3) := by decide +kernel
theorem dX10_isLoose_251 : decode cX10_isLoose 251 = .ok (.goto (-50), 3) := by decide +kernel
theorem dX10_isLoose_254 : decode cX10_isLoose 254 = .ok (.iinc 4 1, 3) := by decide +kernel
theorem dX10_isLoose_257 : decode cX10_isLoose 257 = .ok (.goto (-65), 3) := by decide +kernel
theorem dX10_isLoose_260 : decode cX10_isLoose 260 = .ok (.iconst 1, 1) := by decide +kernel
theorem dX10_isLoose_261 : decode cX10_isLoose 261 = .ok (.ireturn, 1) := by decide +kernel
theorem dX10_findSteps_0 : decode cX10_findSteps 0 = .ok (.aload_n 0, 1) := by decide +kernel
theorem dX10_findSteps_1 : decode cX10_findSteps 1 = .ok (.getfield 88, 3) := by decide +kernel
theorem dX10_findSteps_4 : decode cX10_findSteps 4 = .ok (.iconst 0, 1) := by decide +kernel
theorem dX10_findSteps_5 : decode cX10_findSteps 5 = .ok (.aload_n 0, 1) := by decide +kernel
theorem dX10_findSteps_6 : decode cX10_findSteps 6 = .ok (.getfield 35, 3) := by decide +kernel
theorem dX10_findSteps_9 : decode cX10_findSteps 9 = .ok (.iload_n 1, 1) := by decide +kernel
theorem dX10_findSteps_10 : decode cX10_findSteps 10 = .ok (.iaload, 1) := by decide +kernel
theorem dX10_findSteps_11 : decode cX10_findSteps 11 = .ok (.iastore, 1) := by decide +kernel
theorem dX10_findSteps_12 : decode cX10_findSteps 12 = .ok (.iconst 0, 1) := by decide +kernel
theorem dX10_findSteps_13 : decode cX10_findSteps 13 = .ok (.istore_n 2, 1) := by decide +kernel
theorem dX10_findSteps_14 : decode cX10_findSteps 14 = .ok (.iload_n 2, 1) := by decide +kernel
theorem dX10_findSteps_15 : decode cX10_findSteps 15 = .ok (.aload_n 0, 1) := by decide +kernel
theorem dX10_findSteps_16 : decode cX10_findSteps 16 = .ok (.getfield 35, 3) := by decide +kernel
theorem dX10_findSteps_19 : decode cX10_findSteps 19 = .ok (.iload_n 1, 1) := by decide +kernel
theorem dX10_findSteps_20 : decode cX10_findSteps 20 = .ok (.iaload, 1) := by decide +kernel
theorem dX10_findSteps_21 : decode cX10_findSteps 21 = .ok (.if_icmp .ge 26, 3) := by decide +kernel
theorem dX10_findSteps_24 : decode cX10_findSteps 24 = .ok (.aload_n 0, 1) := by decide +kernel
theorem dX10_findSteps_25 : decode cX10_findSteps 25 = .ok (.getfield 85, 3) := by decide +kernel
theorem dX10_findSteps_28 : decode cX10_findSteps 28 = .ok (.iload_n 2, 1) := by decide +kernel
theorem dX10_findSteps_29 : decode cX10_findSteps 29 = .ok (.aload_n 0, 1) := by decide +kernel
theorem dX10_findSteps_30 : decode cX10_findSteps 30 = .ok (.getfield 38, 3) := by decide +kernel
theorem dX10_findSteps_33 : decode cX10_findSteps 33 = .ok (.bipush 80, 2) := by decide +kernel
theorem dX10_findSteps_35 : decode cX10_findSteps 35 = .ok (.iload_n 1, 1) := by decide +kernel
theorem dX10_findSteps_36 : decode cX10_findSteps 36 = .ok (.imul, 1) := by decide +kernel
theorem dX10_findSteps_37 : decode cX10_findSteps 37 = .ok (.iload_n 2, 1) := by decide +kernel
theorem dX10_findSteps_38 : decode cX10_findSteps 38 = .ok (.iadd, 1) := by decide +kernel
theorem dX10_findSteps_39 : decode cX10_findSteps 39 = .ok (.iaload, 1) := by decide +kernel
theorem dX10_findSteps_40 : decode cX10_findSteps 40 = .ok (.iastore, 1) := by decide +kernel
theorem dX10_findSteps_41 : decode cX10_findSteps 41 = .ok (.iinc 2 1, 3) := by decide +kernel
theorem dX10_findSteps_44 : decode cX10_findSteps 44 = .ok (.goto (-30), 3) := by decide +kernel
theorem dX10_findSteps_47 : decode cX10_findSteps 47 = .ok (.iconst 0, 1) := by decide +kernel
theorem dX10_findSteps_48 : decode cX10_findSteps 48 = .ok (.istore_n 2, 1) := by decide +kernel
theorem dX10_findSteps_49 : decode cX10_findSteps 49 = .ok (.aload_n 0, 1) := by decide +kernel
theorem dX10_findSteps_50 : decode cX10_findSteps 50 = .ok (.getfield 91, 3) := by decide +kernel
theorem dX10_findSteps_53 : decode cX10_findSteps 53 = .ok (.iconst 0, 1) := by decide +kernel
theorem dX10_findSteps_54 : decode cX10_findSteps 54 = .ok (.iconst 0, 1) := by decide +kernel
theorem dX10_findSteps_55 : decode cX10_findSteps 55 = .ok (.iastore, 1) := by decide +kernel
theorem dX10_findSteps_56 : decode cX10_findSteps 56 = .ok (.iload_n 2, 1) := by decide +kernel
theorem dX10_findSteps_57 : decode cX10_findSteps 57 = .ok (.ifCond .lt 160, 3) := by decide +kernel
theorem dX10_findSteps_60 : decode cX10_findSteps 60 = .ok (.aload_n 0, 1) := by decide +kernel
theorem dX10_findSteps_61 : decode cX10_findSteps 61 = .ok (.getfield 88, 3) := by decide +kernel
theorem dX10_findSteps_64 : decode cX10_findSteps 64 = .ok (.iload_n 2, 1) := by decide +kernel
theorem dX10_findSteps_65 : decode cX10_findSteps 65 = .ok (.iaload, 1) := by decide +kernel
theorem dX10_findSteps_66 : decode cX10_findSteps 66 = .ok (.ifCond .ne 10, 3) := by decide +kernel
theorem dX10_findSteps_69 : decode cX10_findSteps 69 = .ok (.aload_n 0, 1) := by decide +kernel
theorem dX10_findSteps_70 : decode cX10_findSteps 70 = .ok (.iload_n 2, 1) := by decide +kernel
theorem dX10_findSteps_71 : decode cX10_findSteps 71 = .ok (.putfield 247, 3) := by decide +kernel
theorem dX10_findSteps_74 : decode cX10_findSteps 74 = .ok (.iconst 1, 1) := by decide +kernel
theorem dX10_findSteps_75 : decode cX10_findSteps 75 = .ok (.ireturn, 1) := by decide +kernel
theorem dX10_findSteps_76 : decode cX10_findSteps 76 = .ok (.aload_n 0, 1) := by decide +kernel
theorem dX10_findSteps_77 : decode cX10_findSteps 77 = .ok (.getfield 91, 3) := by decide +kernel
theorem dX10_findSteps_80 : decode cX10_findSteps 80 = .ok (.iload_n 2, 1) := by decide +kernel
theorem dX10_findSteps_81 : decode cX10_findSteps 81 = .ok (.dup2, 1) := by decide +kernel
theorem dX10_findSteps_82 : decode cX10_findSteps 82 = .ok (.iaload, 1) := by decide +kernel
theorem dX10_findSteps_83 : decode cX10_findSteps 83 = .ok (.iconst 1, 1) := by decide +kernel
theorem dX10_findSteps_84 : decode cX10_findSteps 84 = .ok (.iadd, 1) := by decide +kernel
theorem dX10_findSteps_85 : decode cX10_findSteps 85 = .ok (.iastore, 1) := by decide +kernel
theorem dX10_findSteps_86 : decode cX10_findSteps 86 = .ok (.aload_n 0, 1) := by decide +kernel
theorem dX10_findSteps_87 : decode cX10_findSteps 87 = .ok (.getfield 91, 3) := by decide +kernel
theorem dX10_findSteps_90 : decode cX10_findSteps 90 = .ok (.iload_n 2, 1) := by decide +kernel
theorem dX10_findSteps_91 : decode cX10_findSteps 91 = .ok (.iaload, 1) := by decide +kernel
theorem dX10_findSteps_92 : decode cX10_findSteps 92 = .ok (.bipush 7, 2) := by decide +kernel
theorem dX10_findSteps_94 : decode cX10_findSteps 94 = .ok (.if_icmp .le 9, 3) := by decide +kernel
theorem dX10_findSteps_97 : decode cX10_findSteps 97 = .ok (.iinc 2 (-1), 3) := by decide +kernel
theorem dX10_findSteps_100 : decode cX10_findSteps 100 = .ok (.goto (-44), 3) := by decide +kernel
theorem dX10_findSteps_103 : decode cX10_findSteps 103 = .ok (.aload_n 0, 1) := by decide +kernel
theorem dX10_findSteps_104 : decode cX10_findSteps 104 = .ok (.iload_n 2, 1) := by decide +kernel
theorem dX10_findSteps_105 : decode cX10_findSteps 105 = .ok (.aload_n 0, 1) := by decide +kernel
theorem dX10_findSteps_106 : decode cX10_findSteps 106 = .ok (.getfield 91, 3) := by decide +kernel
theorem dX10_findSteps_109 : decode cX10_findSteps 109 = .ok (.iload_n 2, 1) := by decide +kernel
theorem dX10_findSteps_110 : decode cX10_findSteps 110 = .ok (.iaload, 1) := by decide +kernel
theorem dX10_findSteps_111 : decode cX10_findSteps 111 = .ok (.invokevirtual 250, 3) := by decide +kernel
theorem dX10_findSteps_114 : decode cX10_findSteps 114 = .ok (.ifCond .ne 6, 3) := by decide +kernel
theorem dX10_findSteps_117 : decode cX10_findSteps 117 = .ok (.goto (-61), 3) := by decide +kernel
theorem dX10_findSteps_120 : decode cX10_findSteps 120 = .ok (.iconst 0, 1) := by decide +kernel
theorem dX10_findSteps_121 : decode cX10_findSteps 121 = .ok (.istore_n 3, 1) := by decide +kernel
theorem dX10_findSteps_122 : decode cX10_findSteps 122 = .ok (.iconst 0, 1) := by decide +kernel
theorem dX10_findSteps_123 : decode cX10_findSteps 123 = .ok (.istore 4, 2) := by decide +kernel
theorem dX10_findSteps_125 : decode cX10_findSteps 125 = .ok (.iload 4, 2) := by decide +kernel
theorem dX10_findSteps_127 : decode cX10_findSteps 127 = .ok (.aload_n 0, 1) := by decide +kernel
theorem dX10_findSteps_128 : decode cX10_findSteps 128 = .ok (.getfield 88, 3) := by decide +kernel
theorem dX10_findSteps_131 : decode cX10_findSteps 131 = .ok (.iload_n 2, 1) := by decide +kernel
theorem dX10_findSteps_132 : decode cX10_findSteps 132 = .ok (.iaload, 1) := by decide +kernel
theorem dX10_findSteps_133 : decode cX10_findSteps 133 = .ok (.if_icmp .ge 60, 3) := by decide +kernel
theorem dX10_findSteps_136 : decode cX10_findSteps 136 = .ok (.aload_n 0, 1) := by decide +kernel
theorem dX10_findSteps_137 : decode cX10_findSteps 137 = .ok (.getfield 85, 3) := by decide +kernel
theorem dX10_findSteps_140 : decode cX10_findSteps 140 = .ok (.bipush 7, 2) := by decide +kernel
theorem dX10_findSteps_142 : decode cX10_findSteps 142 = .ok (.iload_n 2, 1) := by decide +kernel
theorem dX10_findSteps_143 : decode cX10_findSteps 143 = .ok (.imul, 1) := by decide +kernel
theorem dX10_findSteps_144 : decode cX10_findSteps 144 = .ok (.iload 4, 2) := by decide +kernel
theorem dX10_findSteps_146 : decode cX10_findSteps 146 = .ok (.iadd, 1) := by decide +kernel
theorem dX10_findSteps_147 : decode cX10_findSteps 147 = .ok (.iaload, 1) := by decide +kernel
theorem dX10_findSteps_148 : decode cX10_findSteps 148 = .ok (.istore 5, 2) := by decide +kernel
theorem dX10_findSteps_150 : decode cX10_findSteps 150 = .ok (.aload_n 0, 1) := by decide +kernel
theorem dX10_findSteps_151 : decode cX10_findSteps 151 = .ok (.getfield 91, 3) := by decide +kernel
theorem dX10_findSteps_154 : decode cX10_findSteps 154 = .ok (.iload_n 2, 1) := by decide +kernel
theorem dX10_findSteps_155 : decode cX10_findSteps 155 = .ok (.iaload, 1) := by decide +kernel
theorem dX10_findSteps_156 : decode cX10_findSteps 156 = .ok (.iload 5, 2) := by decide +kernel
theorem dX10_findSteps_158 : decode cX10_findSteps 158 = .ok (.ishr, 1) := by decide +kernel
theorem dX10_findSteps_159 : decode cX10_findSteps 159 = .ok (.iconst 1, 1) := by decide +kernel
theorem dX10_findSteps_160 : decode cX10_findSteps 160 = .ok (.iand, 1) := by decide +kernel
theorem dX10_findSteps_161 : decode cX10_findSteps 161 = .ok (.iconst 1, 1) := by decide +kernel
theorem dX10_findSteps_162 : decode cX10_findSteps 162 = .ok (.if_icmp .ne 6, 3) := by decide +kernel
theorem dX10_findSteps_165 : decode cX10_findSteps 165 = .ok (.goto 22, 3) := by decide +kernel
theorem dX10_findSteps_168 : decode cX10_findSteps 168 = .ok (.aload_n 0, 1) := by decide +kernel
theorem dX10_findSteps_169 : decode cX10_findSteps 169 = .ok (.getfield 85, 3) := by decide +kernel
theorem dX10_findSteps_172 : decode cX10_findSteps 172 = .ok (.bipush 7, 2) := by decide +kernel
theorem dX10_findSteps_174 : decode cX10_findSteps 174 = .ok (.iload_n 2, 1) := by decide +kernel
theorem dX10_findSteps_175 : decode cX10_findSteps 175 = .ok (.imul, 1) := by decide +kernel
theorem dX10_findSteps_176 : decode cX10_findSteps 176 = .ok (.bipush 7, 2) := by decide +kernel
theorem dX10_findSteps_178 : decode cX10_findSteps 178 = .ok (.iadd, 1) := by decide +kernel
theorem dX10_findSteps_179 : decode cX10_findSteps 179 = .ok (.iload_n 3, 1) := by decide +kernel
theorem dX10_findSteps_180 : decode cX10_findSteps 180 = .ok (.iadd, 1) := by decide +kernel
theorem dX10_findSteps_181 : decode cX10_findSteps 181 = .ok (.iload 5, 2) := by decide +kernel
theorem dX10_findSteps_183 : decode cX10_findSteps 183 = .ok (.iastore, 1) := by decide +kernel
theorem dX10_findSteps_184 : decode cX10_findSteps 184 = .ok (.iinc 3 1, 3) := by decide +kernel
theorem dX10_findSteps_187 : decode cX10_findSteps 187 = .ok (.iinc 4 1, 3) := by decide +kernel
theorem dX10_findSteps_190 : decode cX10_findSteps 190 = .ok (.goto (-65), 3) := by decide +kernel
theorem dX10_findSteps_193 : decode cX10_findSteps 193 = .ok (.aload_n 0, 1) := by decide +kernel
theorem dX10_findSteps_194 : decode cX10_findSteps 194 = .ok (.getfield 88, 3) := by decide +kernel
theorem dX10_findSteps_197 : decode cX10_findSteps 197 = .ok (.iload_n 2, 1) := by decide +kernel
theorem dX10_findSteps_198 : decode cX10_findSteps 198 = .ok (.iconst 1, 1) := by decide +kernel
theorem dX10_findSteps_199 : decode cX10_findSteps 199 = .ok (.iadd, 1) := by decide +kernel
theorem dX10_findSteps_200 : decode cX10_findSteps 200 = .ok (.iload_n 3, 1) := by decide +kernel
theorem dX10_findSteps_201 : decode cX10_findSteps 201 = .ok (.iastore, 1) := by decide +kernel
theorem dX10_findSteps_202 : decode cX10_findSteps 202 = .ok (.aload_n 0, 1) := by decide +kernel
theorem dX10_findSteps_203 : decode cX10_findSteps 203 = .ok (.getfield 91, 3) := by decide +kernel
theorem dX10_findSteps_206 : decode cX10_findSteps 206 = .ok (.iload_n 2, 1) := by decide +kernel
theorem dX10_findSteps_207 : decode cX10_findSteps 207 = .ok (.iconst 1, 1) := by decide +kernel
theorem dX10_findSteps_208 : decode cX10_findSteps 208 = .ok (.iadd, 1) := by decide +kernel
theorem dX10_findSteps_209 : decode cX10_findSteps 209 = .ok (.iconst 0, 1) := by decide +kernel
theorem dX10_findSteps_210 : decode cX10_findSteps 210 = .ok (.iastore, 1) := by decide +kernel
theorem dX10_findSteps_211 : decode cX10_findSteps 211 = .ok (.iinc 2 1, 3) := by decide +kernel
theorem dX10_findSteps_214 : decode cX10_findSteps 214 = .ok (.goto (-158), 3) := by decide +kernel
theorem dX10_findSteps_217 : decode cX10_findSteps 217 = .ok (.aload_n 0, 1) := by decide +kernel
theorem dX10_findSteps_218 : decode cX10_findSteps 218 = .ok (.iconst 0, 1) := by decide +kernel
theorem dX10_findSteps_219 : decode cX10_findSteps 219 = .ok (.putfield 247, 3) := by decide +kernel
theorem dX10_findSteps_222 : decode cX10_findSteps 222 = .ok (.iconst 0, 1) := by decide +kernel
theorem dX10_findSteps_223 : decode cX10_findSteps 223 = .ok (.ireturn, 1) := by decide +kernel
theorem dX10_stands_0 : decode cX10_stands 0 = .ok (.iconst 0, 1) := by decide +kernel
theorem dX10_stands_1 : decode cX10_stands 1 = .ok (.istore_n 2, 1) := by decide +kernel
theorem dX10_stands_2 : decode cX10_stands 2 = .ok (.iconst 0, 1) := by decide +kernel
theorem dX10_stands_3 : decode cX10_stands 3 = .ok (.istore_n 3, 1) := by decide +kernel
theorem dX10_stands_4 : decode cX10_stands 4 = .ok (.iload_n 3, 1) := by decide +kernel
theorem dX10_stands_5 : decode cX10_stands 5 = .ok (.iconst 3, 1) := by decide +kernel
theorem dX10_stands_6 : decode cX10_stands 6 = .ok (.if_icmp .ge 38, 3) := by decide +kernel
theorem dX10_stands_9 : decode cX10_stands 9 = .ok (.iload_n 2, 1) := by decide +kernel
theorem dX10_stands_10 : decode cX10_stands 10 = .ok (.aload_n 0, 1) := by decide +kernel
theorem dX10_stands_11 : decode cX10_stands 11 = .ok (.getfield 38, 3) := by decide +kernel
theorem dX10_stands_14 : decode cX10_stands 14 = .ok (.bipush 80, 2) := by decide +kernel
theorem dX10_stands_16 : decode cX10_stands 16 = .ok (.iload_n 1, 1) := by decide +kernel
theorem dX10_stands_17 : decode cX10_stands 17 = .ok (.imul, 1) := by decide +kernel
theorem dX10_stands_18 : decode cX10_stands 18 = .ok (.aload_n 0, 1) := by decide +kernel
theorem dX10_stands_19 : decode cX10_stands 19 = .ok (.getfield 35, 3) := by decide +kernel
theorem dX10_stands_22 : decode cX10_stands 22 = .ok (.iload_n 1, 1) := by decide +kernel
theorem dX10_stands_23 : decode cX10_stands 23 = .ok (.iaload, 1) := by decide +kernel
theorem dX10_stands_24 : decode cX10_stands 24 = .ok (.iload_n 3, 1) := by decide +kernel
theorem dX10_stands_25 : decode cX10_stands 25 = .ok (.invokestatic 147, 3) := by decide +kernel
theorem dX10_stands_28 : decode cX10_stands 28 = .ok (.ifCond .eq 7, 3) := by decide +kernel
theorem dX10_stands_31 : decode cX10_stands 31 = .ok (.iconst 1, 1) := by decide +kernel
theorem dX10_stands_32 : decode cX10_stands 32 = .ok (.goto 4, 3) := by decide +kernel
theorem dX10_stands_35 : decode cX10_stands 35 = .ok (.iconst 0, 1) := by decide +kernel
theorem dX10_stands_36 : decode cX10_stands 36 = .ok (.iadd, 1) := by decide +kernel
theorem dX10_stands_37 : decode cX10_stands 37 = .ok (.istore_n 2, 1) := by decide +kernel
theorem dX10_stands_38 : decode cX10_stands 38 = .ok (.iinc 3 1, 3) := by decide +kernel
theorem dX10_stands_41 : decode cX10_stands 41 = .ok (.goto (-37), 3) := by decide +kernel
theorem dX10_stands_44 : decode cX10_stands 44 = .ok (.iconst 0, 1) := by decide +kernel
theorem dX10_stands_45 : decode cX10_stands 45 = .ok (.istore_n 3, 1) := by decide +kernel
theorem dX10_stands_46 : decode cX10_stands 46 = .ok (.iconst 0, 1) := by decide +kernel
theorem dX10_stands_47 : decode cX10_stands 47 = .ok (.istore 4, 2) := by decide +kernel
theorem dX10_stands_49 : decode cX10_stands 49 = .ok (.iload 4, 2) := by decide +kernel
theorem dX10_stands_51 : decode cX10_stands 51 = .ok (.iload_n 2, 1) := by decide +kernel
theorem dX10_stands_52 : decode cX10_stands 52 = .ok (.if_icmp .ge 56, 3) := by decide +kernel
theorem dX10_stands_55 : decode cX10_stands 55 = .ok (.aload_n 0, 1) := by decide +kernel
theorem dX10_stands_56 : decode cX10_stands 56 = .ok (.getfield 97, 3) := by decide +kernel
theorem dX10_stands_59 : decode cX10_stands 59 = .ok (.iload_n 3, 1) := by decide +kernel
theorem dX10_stands_60 : decode cX10_stands 60 = .ok (.iload 4, 2) := by decide +kernel
theorem dX10_stands_62 : decode cX10_stands 62 = .ok (.iastore, 1) := by decide +kernel
theorem dX10_stands_63 : decode cX10_stands 63 = .ok (.iconst 0, 1) := by decide +kernel
theorem dX10_stands_64 : decode cX10_stands 64 = .ok (.istore 5, 2) := by decide +kernel
theorem dX10_stands_66 : decode cX10_stands 66 = .ok (.iload 5, 2) := by decide +kernel
theorem dX10_stands_68 : decode cX10_stands 68 = .ok (.iload_n 3, 1) := by decide +kernel
theorem dX10_stands_69 : decode cX10_stands 69 = .ok (.if_icmp .ge 27, 3) := by decide +kernel
theorem dX10_stands_72 : decode cX10_stands 72 = .ok (.aload_n 0, 1) := by decide +kernel
theorem dX10_stands_73 : decode cX10_stands 73 = .ok (.getfield 97, 3) := by decide +kernel
theorem dX10_stands_76 : decode cX10_stands 76 = .ok (.iload_n 3, 1) := by decide +kernel
theorem dX10_stands_77 : decode cX10_stands 77 = .ok (.iconst 1, 1) := by decide +kernel
theorem dX10_stands_78 : decode cX10_stands 78 = .ok (.iadd, 1) := by decide +kernel
theorem dX10_stands_79 : decode cX10_stands 79 = .ok (.iload 5, 2) := by decide +kernel
theorem dX10_stands_81 : decode cX10_stands 81 = .ok (.iadd, 1) := by decide +kernel
theorem dX10_stands_82 : decode cX10_stands 82 = .ok (.aload_n 0, 1) := by decide +kernel
theorem dX10_stands_83 : decode cX10_stands 83 = .ok (.getfield 97, 3) := by decide +kernel
theorem dX10_stands_86 : decode cX10_stands 86 = .ok (.iload 5, 2) := by decide +kernel
theorem dX10_stands_88 : decode cX10_stands 88 = .ok (.iaload, 1) := by decide +kernel
theorem dX10_stands_89 : decode cX10_stands 89 = .ok (.iastore, 1) := by decide +kernel
theorem dX10_stands_90 : decode cX10_stands 90 = .ok (.iinc 5 1, 3) := by decide +kernel
theorem dX10_stands_93 : decode cX10_stands 93 = .ok (.goto (-27), 3) := by decide +kernel
theorem dX10_stands_96 : decode cX10_stands 96 = .ok (.iconst 2, 1) := by decide +kernel
theorem dX10_stands_97 : decode cX10_stands 97 = .ok (.iload_n 3, 1) := by decide +kernel
theorem dX10_stands_98 : decode cX10_stands 98 = .ok (.imul, 1) := by decide +kernel
theorem dX10_stands_99 : decode cX10_stands 99 = .ok (.iconst 1, 1) := by decide +kernel
theorem dX10_stands_100 : decode cX10_stands 100 = .ok (.iadd, 1) := by decide +kernel
theorem dX10_stands_101 : decode cX10_stands 101 = .ok (.istore_n 3, 1) := by decide +kernel
theorem dX10_stands_102 : decode cX10_stands 102 = .ok (.iinc 4 1, 3) := by decide +kernel
theorem dX10_stands_105 : decode cX10_stands 105 = .ok (.goto (-56), 3) := by decide +kernel
theorem dX10_stands_108 : decode cX10_stands 108 = .ok (.iconst 0, 1) := by decide +kernel
theorem dX10_stands_109 : decode cX10_stands 109 = .ok (.istore 4, 2) := by decide +kernel
theorem dX10_stands_111 : decode cX10_stands 111 = .ok (.iload 4, 2) := by decide +kernel
theorem dX10_stands_113 : decode cX10_stands 113 = .ok (.iload_n 3, 1) := by decide +kernel
theorem dX10_stands_114 : decode cX10_stands 114 = .ok (.if_icmp .ge 58, 3) := by decide +kernel
theorem dX10_stands_117 : decode cX10_stands 117 = .ok (.iload 4, 2) := by decide +kernel
theorem dX10_stands_119 : decode cX10_stands 119 = .ok (.iconst 1, 1) := by decide +kernel
theorem dX10_stands_120 : decode cX10_stands 120 = .ok (.iadd, 1) := by decide +kernel
theorem dX10_stands_121 : decode cX10_stands 121 = .ok (.istore 5, 2) := by decide +kernel
theorem dX10_stands_123 : decode cX10_stands 123 = .ok (.iload 5, 2) := by decide +kernel
theorem dX10_stands_125 : decode cX10_stands 125 = .ok (.iload_n 3, 1) := by decide +kernel
theorem dX10_stands_126 : decode cX10_stands 126 = .ok (.if_icmp .gt 40, 3) := by decide +kernel
theorem dX10_stands_129 : decode cX10_stands 129 = .ok (.aload_n 0, 1) := by decide +kernel
theorem dX10_stands_130 : decode cX10_stands 130 = .ok (.aload_n 0, 1) := by decide +kernel
theorem dX10_stands_131 : decode cX10_stands 131 = .ok (.getfield 38, 3) := by decide +kernel
theorem dX10_stands_134 : decode cX10_stands 134 = .ok (.bipush 80, 2) := by decide +kernel
theorem dX10_stands_136 : decode cX10_stands 136 = .ok (.iload_n 1, 1) := by decide +kernel
theorem dX10_stands_137 : decode cX10_stands 137 = .ok (.imul, 1) := by decide +kernel
theorem dX10_stands_138 : decode cX10_stands 138 = .ok (.aload_n 0, 1) := by decide +kernel
theorem dX10_stands_139 : decode cX10_stands 139 = .ok (.getfield 35, 3) := by decide +kernel
theorem dX10_stands_142 : decode cX10_stands 142 = .ok (.iload_n 1, 1) := by decide +kernel
theorem dX10_stands_143 : decode cX10_stands 143 = .ok (.iaload, 1) := by decide +kernel
theorem dX10_stands_144 : decode cX10_stands 144 = .ok (.aload_n 0, 1) := by decide +kernel
theorem dX10_stands_145 : decode cX10_stands 145 = .ok (.getfield 97, 3) := by decide +kernel
theorem dX10_stands_148 : decode cX10_stands 148 = .ok (.iload 4, 2) := by decide +kernel
theorem dX10_stands_150 : decode cX10_stands 150 = .ok (.iload 5, 2) := by decide +kernel
theorem dX10_stands_152 : decode cX10_stands 152 = .ok (.invokevirtual 140, 3) := by decide +kernel
theorem dX10_stands_155 : decode cX10_stands 155 = .ok (.ifCond .eq 5, 3) := by decide +kernel
theorem dX10_stands_158 : decode cX10_stands 158 = .ok (.iconst 1, 1) := by decide +kernel
theorem dX10_stands_159 : decode cX10_stands 159 = .ok (.ireturn, 1) := by decide +kernel
theorem dX10_stands_160 : decode cX10_stands 160 = .ok (.iinc 5 1, 3) := by decide +kernel
theorem dX10_stands_163 : decode cX10_stands 163 = .ok (.goto (-40), 3) := by decide +kernel
theorem dX10_stands_166 : decode cX10_stands 166 = .ok (.iinc 4 1, 3) := by decide +kernel
theorem dX10_stands_169 : decode cX10_stands 169 = .ok (.goto (-58), 3) := by decide +kernel
theorem dX10_stands_172 : decode cX10_stands 172 = .ok (.iconst 0, 1) := by decide +kernel
theorem dX10_stands_173 : decode cX10_stands 173 = .ok (.ireturn, 1) := by decide +kernel
theorem dX10_shape_0 : decode cX10_shape 0 = .ok (.aload_n 0, 1) := by decide +kernel
theorem dX10_shape_1 : decode cX10_shape 1 = .ok (.iconst 0, 1) := by decide +kernel
theorem dX10_shape_2 : decode cX10_shape 2 = .ok (.putfield 1, 3) := by decide +kernel
theorem dX10_shape_5 : decode cX10_shape 5 = .ok (.aload_n 0, 1) := by decide +kernel
theorem dX10_shape_6 : decode cX10_shape 6 = .ok (.iload_n 1, 1) := by decide +kernel
theorem dX10_shape_7 : decode cX10_shape 7 = .ok (.ifCond .lt 15, 3) := by decide +kernel
theorem dX10_shape_10 : decode cX10_shape 10 = .ok (.iload_n 1, 1) := by decide +kernel
theorem dX10_shape_11 : decode cX10_shape 11 = .ok (.aload_n 0, 1) := by decide +kernel
theorem dX10_shape_12 : decode cX10_shape 12 = .ok (.getfield 122, 3) := by decide +kernel
theorem dX10_shape_15 : decode cX10_shape 15 = .ok (.if_icmp .ge 7, 3) := by decide +kernel
theorem dX10_shape_18 : decode cX10_shape 18 = .ok (.iconst 1, 1) := by decide +kernel
theorem dX10_shape_19 : decode cX10_shape 19 = .ok (.goto 4, 3) := by decide +kernel
theorem dX10_shape_22 : decode cX10_shape 22 = .ok (.iconst 0, 1) := by decide +kernel
theorem dX10_shape_23 : decode cX10_shape 23 = .ok (.iconst 1, 1) := by decide +kernel
theorem dX10_shape_24 : decode cX10_shape 24 = .ok (.invokevirtual 100, 3) := by decide +kernel
theorem dX10_shape_27 : decode cX10_shape 27 = .ok (.ifCond .eq 20, 3) := by decide +kernel
theorem dX10_shape_30 : decode cX10_shape 30 = .ok (.aload_n 0, 1) := by decide +kernel
theorem dX10_shape_31 : decode cX10_shape 31 = .ok (.iload_n 2, 1) := by decide +kernel
theorem dX10_shape_32 : decode cX10_shape 32 = .ok (.ifCond .lt 7, 3) := by decide +kernel
theorem dX10_shape_35 : decode cX10_shape 35 = .ok (.iconst 1, 1) := by decide +kernel
theorem dX10_shape_36 : decode cX10_shape 36 = .ok (.goto 4, 3) := by decide +kernel
theorem dX10_shape_39 : decode cX10_shape 39 = .ok (.iconst 0, 1) := by decide +kernel
theorem dX10_shape_40 : decode cX10_shape 40 = .ok (.iconst 2, 1) := by decide +kernel
theorem dX10_shape_41 : decode cX10_shape 41 = .ok (.invokevirtual 100, 3) := by decide +kernel
theorem dX10_shape_44 : decode cX10_shape 44 = .ok (.ifCond .ne 5, 3) := by decide +kernel
theorem dX10_shape_47 : decode cX10_shape 47 = .ok (.iconst 0, 1) := by decide +kernel
theorem dX10_shape_48 : decode cX10_shape 48 = .ok (.ireturn, 1) := by decide +kernel
theorem dX10_shape_49 : decode cX10_shape 49 = .ok (.aload_n 0, 1) := by decide +kernel
theorem dX10_shape_50 : decode cX10_shape 50 = .ok (.getfield 26, 3) := by decide +kernel
theorem dX10_shape_53 : decode cX10_shape 53 = .ok (.iload_n 1, 1) := by decide +kernel
theorem dX10_shape_54 : decode cX10_shape 54 = .ok (.iaload, 1) := by decide +kernel
theorem dX10_shape_55 : decode cX10_shape 55 = .ok (.iconst 5, 1) := by decide +kernel
theorem dX10_shape_56 : decode cX10_shape 56 = .ok (.if_icmp .eq 5, 3) := by decide +kernel
theorem dX10_shape_59 : decode cX10_shape 59 = .ok (.iconst (-1), 1) := by decide +kernel
theorem dX10_shape_60 : decode cX10_shape 60 = .ok (.ireturn, 1) := by decide +kernel
theorem dX10_shape_61 : decode cX10_shape 61 = .ok (.iload_n 2, 1) := by decide +kernel
theorem dX10_shape_62 : decode cX10_shape 62 = .ok (.iconst 1, 1) := by decide +kernel
theorem dX10_shape_63 : decode cX10_shape 63 = .ok (.if_icmp .ne 17, 3) := by decide +kernel
theorem dX10_shape_66 : decode cX10_shape 66 = .ok (.aload_n 0, 1) := by decide +kernel
theorem dX10_shape_67 : decode cX10_shape 67 = .ok (.iload_n 1, 1) := by decide +kernel
theorem dX10_shape_68 : decode cX10_shape 68 = .ok (.invokevirtual 253, 3) := by decide +kernel
theorem dX10_shape_71 : decode cX10_shape 71 = .ok (.ifCond .eq 7, 3) := by decide +kernel
theorem dX10_shape_74 : decode cX10_shape 74 = .ok (.iconst 1, 1) := by decide +kernel
theorem dX10_shape_75 : decode cX10_shape 75 = .ok (.goto 4, 3) := by decide +kernel
theorem dX10_shape_78 : decode cX10_shape 78 = .ok (.iconst 0, 1) := by decide +kernel
theorem dX10_shape_79 : decode cX10_shape 79 = .ok (.ireturn, 1) := by decide +kernel
theorem dX10_shape_80 : decode cX10_shape 80 = .ok (.aload_n 0, 1) := by decide +kernel
theorem dX10_shape_81 : decode cX10_shape 81 = .ok (.iload_n 1, 1) := by decide +kernel
theorem dX10_shape_82 : decode cX10_shape 82 = .ok (.invokevirtual 256, 3) := by decide +kernel
theorem dX10_shape_85 : decode cX10_shape 85 = .ok (.istore_n 3, 1) := by decide +kernel
theorem dX10_shape_86 : decode cX10_shape 86 = .ok (.iload_n 2, 1) := by decide +kernel
theorem dX10_shape_87 : decode cX10_shape 87 = .ok (.ifCond .ne 13, 3) := by decide +kernel
theorem dX10_shape_90 : decode cX10_shape 90 = .ok (.iload_n 3, 1) := by decide +kernel
theorem dX10_shape_91 : decode cX10_shape 91 = .ok (.ifCond .eq 7, 3) := by decide +kernel
theorem dX10_shape_94 : decode cX10_shape 94 = .ok (.iconst 1, 1) := by decide +kernel
theorem dX10_shape_95 : decode cX10_shape 95 = .ok (.goto 4, 3) := by decide +kernel
theorem dX10_shape_98 : decode cX10_shape 98 = .ok (.iconst 0, 1) := by decide +kernel
theorem dX10_shape_99 : decode cX10_shape 99 = .ok (.ireturn, 1) := by decide +kernel
theorem dX10_shape_100 : decode cX10_shape 100 = .ok (.iload_n 2, 1) := by decide +kernel
theorem dX10_shape_101 : decode cX10_shape 101 = .ok (.iconst 2, 1) := by decide +kernel
theorem dX10_shape_102 : decode cX10_shape 102 = .ok (.if_icmp .ne 8, 3) := by decide +kernel
theorem dX10_shape_105 : decode cX10_shape 105 = .ok (.aload_n 0, 1) := by decide +kernel
theorem dX10_shape_106 : decode cX10_shape 106 = .ok (.getfield 247, 3) := by decide +kernel
theorem dX10_shape_109 : decode cX10_shape 109 = .ok (.ireturn, 1) := by decide +kernel
theorem dX10_shape_110 : decode cX10_shape 110 = .ok (.iload_n 2, 1) := by decide +kernel
theorem dX10_shape_111 : decode cX10_shape 111 = .ok (.iconst 3, 1) := by decide +kernel
theorem dX10_shape_112 : decode cX10_shape 112 = .ok (.isub, 1) := by decide +kernel
theorem dX10_shape_113 : decode cX10_shape 113 = .ok (.aload_n 0, 1) := by decide +kernel
theorem dX10_shape_114 : decode cX10_shape 114 = .ok (.getfield 247, 3) := by decide +kernel
theorem dX10_shape_117 : decode cX10_shape 117 = .ok (.if_icmp .ge 14, 3) := by decide +kernel
theorem dX10_shape_120 : decode cX10_shape 120 = .ok (.aload_n 0, 1) := by decide +kernel
theorem dX10_shape_121 : decode cX10_shape 121 = .ok (.getfield 91, 3) := by decide +kernel
theorem dX10_shape_124 : decode cX10_shape 124 = .ok (.iload_n 2, 1) := by decide +kernel
theorem dX10_shape_125 : decode cX10_shape 125 = .ok (.iconst 3, 1) := by decide +kernel
theorem dX10_shape_126 : decode cX10_shape 126 = .ok (.isub, 1) := by decide +kernel
theorem dX10_shape_127 : decode cX10_shape 127 = .ok (.iaload, 1) := by decide +kernel
theorem dX10_shape_128 : decode cX10_shape 128 = .ok (.goto 4, 3) := by decide +kernel
theorem dX10_shape_131 : decode cX10_shape 131 = .ok (.iconst 0, 1) := by decide +kernel
theorem dX10_shape_132 : decode cX10_shape 132 = .ok (.ireturn, 1) := by decide +kernel
