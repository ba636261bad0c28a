theorem d_M_took_0 : decode c_M_took 0 = .ok (.aload_n 0, 1) := by decide +kernel
theorem d_M_took_1 : decode c_M_took 1 = .ok (.getfield 108, 3) := by decide +kernel
theorem d_M_took_4 : decode c_M_took 4 = .ok (.iload_n 3, 1) := by decide +kernel
theorem d_M_took_5 : decode c_M_took 5 = .ok (.if_icmp .ne 37, 3) := by decide +kernel
theorem d_M_took_8 : decode c_M_took 8 = .ok (.aload_n 0, 1) := by decide +kernel
theorem d_M_took_9 : decode c_M_took 9 = .ok (.getfield 24, 3) := by decide +kernel
theorem d_M_took_12 : decode c_M_took 12 = .ok (.aload_n 0, 1) := by decide +kernel
theorem d_M_took_13 : decode c_M_took 13 = .ok (.getfield 76, 3) := by decide +kernel
theorem d_M_took_16 : decode c_M_took 16 = .ok (.aload_n 0, 1) := by decide +kernel
theorem d_M_took_17 : decode c_M_took 17 = .ok (.getfield 108, 3) := by decide +kernel
theorem d_M_took_20 : decode c_M_took 20 = .ok (.iconst 1, 1) := by decide +kernel
theorem d_M_took_21 : decode c_M_took 21 = .ok (.isub, 1) := by decide +kernel
theorem d_M_took_22 : decode c_M_took 22 = .ok (.iaload, 1) := by decide +kernel
theorem d_M_took_23 : decode c_M_took 23 = .ok (.iaload, 1) := by decide +kernel
theorem d_M_took_24 : decode c_M_took 24 = .ok (.iconst 2, 1) := by decide +kernel
theorem d_M_took_25 : decode c_M_took 25 = .ok (.if_icmp .ne 17, 3) := by decide +kernel
theorem d_M_took_28 : decode c_M_took 28 = .ok (.aload_n 0, 1) := by decide +kernel
theorem d_M_took_29 : decode c_M_took 29 = .ok (.getfield 79, 3) := by decide +kernel
theorem d_M_took_32 : decode c_M_took 32 = .ok (.aload_n 0, 1) := by decide +kernel
theorem d_M_took_33 : decode c_M_took 33 = .ok (.getfield 108, 3) := by decide +kernel
theorem d_M_took_36 : decode c_M_took 36 = .ok (.iconst 1, 1) := by decide +kernel
theorem d_M_took_37 : decode c_M_took 37 = .ok (.isub, 1) := by decide +kernel
theorem d_M_took_38 : decode c_M_took 38 = .ok (.iaload, 1) := by decide +kernel
theorem d_M_took_39 : decode c_M_took 39 = .ok (.ifCond .eq 5, 3) := by decide +kernel
theorem d_M_took_42 : decode c_M_took 42 = .ok (.iconst 0, 1) := by decide +kernel
theorem d_M_took_43 : decode c_M_took 43 = .ok (.ireturn, 1) := by decide +kernel
theorem d_M_took_44 : decode c_M_took 44 = .ok (.aload_n 0, 1) := by decide +kernel
theorem d_M_took_45 : decode c_M_took 45 = .ok (.getfield 82, 3) := by decide +kernel
theorem d_M_took_48 : decode c_M_took 48 = .ok (.iconst 4, 1) := by decide +kernel
theorem d_M_took_49 : decode c_M_took 49 = .ok (.aload_n 0, 1) := by decide +kernel
theorem d_M_took_50 : decode c_M_took 50 = .ok (.getfield 108, 3) := by decide +kernel
theorem d_M_took_53 : decode c_M_took 53 = .ok (.iconst 1, 1) := by decide +kernel
theorem d_M_took_54 : decode c_M_took 54 = .ok (.isub, 1) := by decide +kernel
theorem d_M_took_55 : decode c_M_took 55 = .ok (.imul, 1) := by decide +kernel
theorem d_M_took_56 : decode c_M_took 56 = .ok (.lload_n 1, 1) := by decide +kernel
theorem d_M_took_57 : decode c_M_took 57 = .ok (.lastore, 1) := by decide +kernel
theorem d_M_took_58 : decode c_M_took 58 = .ok (.aload_n 0, 1) := by decide +kernel
theorem d_M_took_59 : decode c_M_took 59 = .ok (.getfield 79, 3) := by decide +kernel
theorem d_M_took_62 : decode c_M_took 62 = .ok (.aload_n 0, 1) := by decide +kernel
theorem d_M_took_63 : decode c_M_took 63 = .ok (.getfield 108, 3) := by decide +kernel
theorem d_M_took_66 : decode c_M_took 66 = .ok (.iconst 1, 1) := by decide +kernel
theorem d_M_took_67 : decode c_M_took 67 = .ok (.isub, 1) := by decide +kernel
theorem d_M_took_68 : decode c_M_took 68 = .ok (.iconst 1, 1) := by decide +kernel
theorem d_M_took_69 : decode c_M_took 69 = .ok (.iastore, 1) := by decide +kernel
theorem d_M_took_70 : decode c_M_took 70 = .ok (.iconst 1, 1) := by decide +kernel
theorem d_M_took_71 : decode c_M_took 71 = .ok (.ireturn, 1) := by decide +kernel
theorem d_M_gets_0 : decode c_M_gets 0 = .ok (.aload_n 0, 1) := by decide +kernel
theorem d_M_gets_1 : decode c_M_gets 1 = .ok (.iconst 0, 1) := by decide +kernel
theorem d_M_gets_2 : decode c_M_gets 2 = .ok (.putfield 108, 3) := by decide +kernel
theorem d_M_gets_5 : decode c_M_gets 5 = .ok (.aload_n 0, 1) := by decide +kernel
theorem d_M_gets_6 : decode c_M_gets 6 = .ok (.iload_n 1, 1) := by decide +kernel
theorem d_M_gets_7 : decode c_M_gets 7 = .ok (.iload_n 2, 1) := by decide +kernel
theorem d_M_gets_8 : decode c_M_gets 8 = .ok (.invokevirtual 134, 3) := by decide +kernel
theorem d_M_gets_11 : decode c_M_gets 11 = .ok (.lstore_n 3, 1) := by decide +kernel
theorem d_M_gets_12 : decode c_M_gets 12 = .ok (.iconst 0, 1) := by decide +kernel
theorem d_M_gets_13 : decode c_M_gets 13 = .ok (.istore 5, 2) := by decide +kernel
theorem d_M_gets_15 : decode c_M_gets 15 = .ok (.iload 5, 2) := by decide +kernel
theorem d_M_gets_17 : decode c_M_gets 17 = .ok (.ldc 143, 2) := by decide +kernel
theorem d_M_gets_19 : decode c_M_gets 19 = .ok (.if_icmp .ge 122, 3) := by decide +kernel
theorem d_M_gets_22 : decode c_M_gets 22 = .ok (.aload_n 0, 1) := by decide +kernel
theorem d_M_gets_23 : decode c_M_gets 23 = .ok (.getfield 108, 3) := by decide +kernel
theorem d_M_gets_26 : decode c_M_gets 26 = .ok (.ifCond .le 115, 3) := by decide +kernel
theorem d_M_gets_29 : decode c_M_gets 29 = .ok (.lload_n 3, 1) := by decide +kernel
theorem d_M_gets_30 : decode c_M_gets 30 = .ok (.lconst 0, 1) := by decide +kernel
theorem d_M_gets_31 : decode c_M_gets 31 = .ok (.lcmp, 1) := by decide +kernel
theorem d_M_gets_32 : decode c_M_gets 32 = .ok (.ifCond .ge 13, 3) := by decide +kernel
theorem d_M_gets_35 : decode c_M_gets 35 = .ok (.lload_n 3, 1) := by decide +kernel
theorem d_M_gets_36 : decode c_M_gets 36 = .ok (.ldc2_w 127, 3) := by decide +kernel
theorem d_M_gets_39 : decode c_M_gets 39 = .ok (.lcmp, 1) := by decide +kernel
theorem d_M_gets_40 : decode c_M_gets 40 = .ok (.ifCond .eq 5, 3) := by decide +kernel
theorem d_M_gets_43 : decode c_M_gets 43 = .ok (.lload_n 3, 1) := by decide +kernel
theorem d_M_gets_44 : decode c_M_gets 44 = .ok (.lreturn, 1) := by decide +kernel
theorem d_M_gets_45 : decode c_M_gets 45 = .ok (.aload_n 0, 1) := by decide +kernel
theorem d_M_gets_46 : decode c_M_gets 46 = .ok (.getfield 108, 3) := by decide +kernel
theorem d_M_gets_49 : decode c_M_gets 49 = .ok (.istore 6, 2) := by decide +kernel
theorem d_M_gets_51 : decode c_M_gets 51 = .ok (.aload_n 0, 1) := by decide +kernel
theorem d_M_gets_52 : decode c_M_gets 52 = .ok (.invokevirtual 144, 3) := by decide +kernel
theorem d_M_gets_55 : decode c_M_gets 55 = .ok (.lstore_n 3, 1) := by decide +kernel
theorem d_M_gets_56 : decode c_M_gets 56 = .ok (.lload_n 3, 1) := by decide +kernel
theorem d_M_gets_57 : decode c_M_gets 57 = .ok (.lconst 0, 1) := by decide +kernel
theorem d_M_gets_58 : decode c_M_gets 58 = .ok (.lcmp, 1) := by decide +kernel
theorem d_M_gets_59 : decode c_M_gets 59 = .ok (.ifCond .lt 76, 3) := by decide +kernel
theorem d_M_gets_62 : decode c_M_gets 62 = .ok (.aload_n 0, 1) := by decide +kernel
theorem d_M_gets_63 : decode c_M_gets 63 = .ok (.lload_n 3, 1) := by decide +kernel
theorem d_M_gets_64 : decode c_M_gets 64 = .ok (.iload 6, 2) := by decide +kernel
theorem d_M_gets_66 : decode c_M_gets 66 = .ok (.invokevirtual 148, 3) := by decide +kernel
theorem d_M_gets_69 : decode c_M_gets 69 = .ok (.ifCond .eq 6, 3) := by decide +kernel
theorem d_M_gets_72 : decode c_M_gets 72 = .ok (.goto 63, 3) := by decide +kernel
theorem d_M_gets_75 : decode c_M_gets 75 = .ok (.aload_n 0, 1) := by decide +kernel
theorem d_M_gets_76 : decode c_M_gets 76 = .ok (.dup, 1) := by decide +kernel
theorem d_M_gets_77 : decode c_M_gets 77 = .ok (.getfield 108, 3) := by decide +kernel
theorem d_M_gets_80 : decode c_M_gets 80 = .ok (.iconst 1, 1) := by decide +kernel
theorem d_M_gets_81 : decode c_M_gets 81 = .ok (.isub, 1) := by decide +kernel
theorem d_M_gets_82 : decode c_M_gets 82 = .ok (.putfield 108, 3) := by decide +kernel
theorem d_M_gets_85 : decode c_M_gets 85 = .ok (.aload_n 0, 1) := by decide +kernel
theorem d_M_gets_86 : decode c_M_gets 86 = .ok (.getfield 108, 3) := by decide +kernel
theorem d_M_gets_89 : decode c_M_gets 89 = .ok (.ifCond .ne 5, 3) := by decide +kernel
theorem d_M_gets_92 : decode c_M_gets 92 = .ok (.lload_n 3, 1) := by decide +kernel
theorem d_M_gets_93 : decode c_M_gets 93 = .ok (.lreturn, 1) := by decide +kernel
theorem d_M_gets_94 : decode c_M_gets 94 = .ok (.aload_n 0, 1) := by decide +kernel
theorem d_M_gets_95 : decode c_M_gets 95 = .ok (.getfield 82, 3) := by decide +kernel
theorem d_M_gets_98 : decode c_M_gets 98 = .ok (.iconst 4, 1) := by decide +kernel
theorem d_M_gets_99 : decode c_M_gets 99 = .ok (.aload_n 0, 1) := by decide +kernel
theorem d_M_gets_100 : decode c_M_gets 100 = .ok (.getfield 108, 3) := by decide +kernel
theorem d_M_gets_103 : decode c_M_gets 103 = .ok (.iconst 1, 1) := by decide +kernel
theorem d_M_gets_104 : decode c_M_gets 104 = .ok (.isub, 1) := by decide +kernel
theorem d_M_gets_105 : decode c_M_gets 105 = .ok (.imul, 1) := by decide +kernel
theorem d_M_gets_106 : decode c_M_gets 106 = .ok (.aload_n 0, 1) := by decide +kernel
theorem d_M_gets_107 : decode c_M_gets 107 = .ok (.getfield 79, 3) := by decide +kernel
theorem d_M_gets_110 : decode c_M_gets 110 = .ok (.aload_n 0, 1) := by decide +kernel
theorem d_M_gets_111 : decode c_M_gets 111 = .ok (.getfield 108, 3) := by decide +kernel
theorem d_M_gets_114 : decode c_M_gets 114 = .ok (.iconst 1, 1) := by decide +kernel
theorem d_M_gets_115 : decode c_M_gets 115 = .ok (.isub, 1) := by decide +kernel
theorem d_M_gets_116 : decode c_M_gets 116 = .ok (.iaload, 1) := by decide +kernel
theorem d_M_gets_117 : decode c_M_gets 117 = .ok (.iadd, 1) := by decide +kernel
theorem d_M_gets_118 : decode c_M_gets 118 = .ok (.lload_n 3, 1) := by decide +kernel
theorem d_M_gets_119 : decode c_M_gets 119 = .ok (.lastore, 1) := by decide +kernel
theorem d_M_gets_120 : decode c_M_gets 120 = .ok (.aload_n 0, 1) := by decide +kernel
theorem d_M_gets_121 : decode c_M_gets 121 = .ok (.getfield 79, 3) := by decide +kernel
theorem d_M_gets_124 : decode c_M_gets 124 = .ok (.aload_n 0, 1) := by decide +kernel
theorem d_M_gets_125 : decode c_M_gets 125 = .ok (.getfield 108, 3) := by decide +kernel
theorem d_M_gets_128 : decode c_M_gets 128 = .ok (.iconst 1, 1) := by decide +kernel
theorem d_M_gets_129 : decode c_M_gets 129 = .ok (.isub, 1) := by decide +kernel
theorem d_M_gets_130 : decode c_M_gets 130 = .ok (.dup2, 1) := by decide +kernel
theorem d_M_gets_131 : decode c_M_gets 131 = .ok (.iaload, 1) := by decide +kernel
theorem d_M_gets_132 : decode c_M_gets 132 = .ok (.iconst 1, 1) := by decide +kernel
theorem d_M_gets_133 : decode c_M_gets 133 = .ok (.iadd, 1) := by decide +kernel
theorem d_M_gets_134 : decode c_M_gets 134 = .ok (.iastore, 1) := by decide +kernel
theorem d_M_gets_135 : decode c_M_gets 135 = .ok (.iinc 5 1, 3) := by decide +kernel
theorem d_M_gets_138 : decode c_M_gets 138 = .ok (.goto (-123), 3) := by decide +kernel
theorem d_M_gets_141 : decode c_M_gets 141 = .ok (.lload_n 3, 1) := by decide +kernel
theorem d_M_gets_142 : decode c_M_gets 142 = .ok (.lreturn, 1) := by decide +kernel
theorem d_M_keepCopies_0 : decode c_M_keepCopies 0 = .ok (.iconst 0, 1) := by decide +kernel
theorem d_M_keepCopies_1 : decode c_M_keepCopies 1 = .ok (.istore_n 1, 1) := by decide +kernel
theorem d_M_keepCopies_2 : decode c_M_keepCopies 2 = .ok (.iload_n 1, 1) := by decide +kernel
theorem d_M_keepCopies_3 : decode c_M_keepCopies 3 = .ok (.bipush 36, 2) := by decide +kernel
theorem d_M_keepCopies_5 : decode c_M_keepCopies 5 = .ok (.if_icmp .ge 33, 3) := by decide +kernel
theorem d_M_keepCopies_8 : decode c_M_keepCopies 8 = .ok (.aload_n 0, 1) := by decide +kernel
theorem d_M_keepCopies_9 : decode c_M_keepCopies 9 = .ok (.getfield 48, 3) := by decide +kernel
theorem d_M_keepCopies_12 : decode c_M_keepCopies 12 = .ok (.iload_n 1, 1) := by decide +kernel
theorem d_M_keepCopies_13 : decode c_M_keepCopies 13 = .ok (.aload_n 0, 1) := by decide +kernel
theorem d_M_keepCopies_14 : decode c_M_keepCopies 14 = .ok (.getfield 42, 3) := by decide +kernel
theorem d_M_keepCopies_17 : decode c_M_keepCopies 17 = .ok (.iload_n 1, 1) := by decide +kernel
theorem d_M_keepCopies_18 : decode c_M_keepCopies 18 = .ok (.iaload, 1) := by decide +kernel
theorem d_M_keepCopies_19 : decode c_M_keepCopies 19 = .ok (.iastore, 1) := by decide +kernel
theorem d_M_keepCopies_20 : decode c_M_keepCopies 20 = .ok (.aload_n 0, 1) := by decide +kernel
theorem d_M_keepCopies_21 : decode c_M_keepCopies 21 = .ok (.getfield 51, 3) := by decide +kernel
theorem d_M_keepCopies_24 : decode c_M_keepCopies 24 = .ok (.iload_n 1, 1) := by decide +kernel
theorem d_M_keepCopies_25 : decode c_M_keepCopies 25 = .ok (.aload_n 0, 1) := by decide +kernel
theorem d_M_keepCopies_26 : decode c_M_keepCopies 26 = .ok (.getfield 45, 3) := by decide +kernel
theorem d_M_keepCopies_29 : decode c_M_keepCopies 29 = .ok (.iload_n 1, 1) := by decide +kernel
theorem d_M_keepCopies_30 : decode c_M_keepCopies 30 = .ok (.iaload, 1) := by decide +kernel
theorem d_M_keepCopies_31 : decode c_M_keepCopies 31 = .ok (.iastore, 1) := by decide +kernel
theorem d_M_keepCopies_32 : decode c_M_keepCopies 32 = .ok (.iinc 1 1, 3) := by decide +kernel
theorem d_M_keepCopies_35 : decode c_M_keepCopies 35 = .ok (.goto (-33), 3) := by decide +kernel
theorem d_M_keepCopies_38 : decode c_M_keepCopies 38 = .ok (.return_, 1) := by decide +kernel
theorem d_M_takeBack_0 : decode c_M_takeBack 0 = .ok (.aload_n 0, 1) := by decide +kernel
theorem d_M_takeBack_1 : decode c_M_takeBack 1 = .ok (.iload_n 1, 1) := by decide +kernel
theorem d_M_takeBack_2 : decode c_M_takeBack 2 = .ok (.putfield 129, 3) := by decide +kernel
theorem d_M_takeBack_5 : decode c_M_takeBack 5 = .ok (.iconst 0, 1) := by decide +kernel
theorem d_M_takeBack_6 : decode c_M_takeBack 6 = .ok (.istore_n 2, 1) := by decide +kernel
theorem d_M_takeBack_7 : decode c_M_takeBack 7 = .ok (.iload_n 2, 1) := by decide +kernel
theorem d_M_takeBack_8 : decode c_M_takeBack 8 = .ok (.bipush 36, 2) := by decide +kernel
theorem d_M_takeBack_10 : decode c_M_takeBack 10 = .ok (.if_icmp .ge 33, 3) := by decide +kernel
theorem d_M_takeBack_13 : decode c_M_takeBack 13 = .ok (.aload_n 0, 1) := by decide +kernel
theorem d_M_takeBack_14 : decode c_M_takeBack 14 = .ok (.getfield 42, 3) := by decide +kernel
theorem d_M_takeBack_17 : decode c_M_takeBack 17 = .ok (.iload_n 2, 1) := by decide +kernel
theorem d_M_takeBack_18 : decode c_M_takeBack 18 = .ok (.aload_n 0, 1) := by decide +kernel
theorem d_M_takeBack_19 : decode c_M_takeBack 19 = .ok (.getfield 48, 3) := by decide +kernel
theorem d_M_takeBack_22 : decode c_M_takeBack 22 = .ok (.iload_n 2, 1) := by decide +kernel
theorem d_M_takeBack_23 : decode c_M_takeBack 23 = .ok (.iaload, 1) := by decide +kernel
theorem d_M_takeBack_24 : decode c_M_takeBack 24 = .ok (.iastore, 1) := by decide +kernel
theorem d_M_takeBack_25 : decode c_M_takeBack 25 = .ok (.aload_n 0, 1) := by decide +kernel
theorem d_M_takeBack_26 : decode c_M_takeBack 26 = .ok (.getfield 45, 3) := by decide +kernel
theorem d_M_takeBack_29 : decode c_M_takeBack 29 = .ok (.iload_n 2, 1) := by decide +kernel
theorem d_M_takeBack_30 : decode c_M_takeBack 30 = .ok (.aload_n 0, 1) := by decide +kernel
theorem d_M_takeBack_31 : decode c_M_takeBack 31 = .ok (.getfield 51, 3) := by decide +kernel
theorem d_M_takeBack_34 : decode c_M_takeBack 34 = .ok (.iload_n 2, 1) := by decide +kernel
theorem d_M_takeBack_35 : decode c_M_takeBack 35 = .ok (.iaload, 1) := by decide +kernel
theorem d_M_takeBack_36 : decode c_M_takeBack 36 = .ok (.iastore, 1) := by decide +kernel
theorem d_M_takeBack_37 : decode c_M_takeBack 37 = .ok (.iinc 2 1, 3) := by decide +kernel
theorem d_M_takeBack_40 : decode c_M_takeBack 40 = .ok (.goto (-33), 3) := by decide +kernel
theorem d_M_takeBack_43 : decode c_M_takeBack 43 = .ok (.return_, 1) := by decide +kernel
theorem d_M_get_0 : decode c_M_get 0 = .ok (.aload_n 0, 1) := by decide +kernel
theorem d_M_get_1 : decode c_M_get 1 = .ok (.iload_n 1, 1) := by decide +kernel
theorem d_M_get_2 : decode c_M_get 2 = .ok (.iload_n 2, 1) := by decide +kernel
theorem d_M_get_3 : decode c_M_get 3 = .ok (.invokevirtual 88, 3) := by decide +kernel
theorem d_M_get_6 : decode c_M_get 6 = .ok (.ifCond .eq 7, 3) := by decide +kernel
theorem d_M_get_9 : decode c_M_get 9 = .ok (.ldc2_w 152, 3) := by decide +kernel
theorem d_M_get_12 : decode c_M_get 12 = .ok (.lreturn, 1) := by decide +kernel
theorem d_M_get_13 : decode c_M_get 13 = .ok (.aload_n 0, 1) := by decide +kernel
theorem d_M_get_14 : decode c_M_get 14 = .ok (.getfield 129, 3) := by decide +kernel
theorem d_M_get_17 : decode c_M_get 17 = .ok (.istore_n 3, 1) := by decide +kernel
theorem d_M_get_18 : decode c_M_get 18 = .ok (.aload_n 0, 1) := by decide +kernel
theorem d_M_get_19 : decode c_M_get 19 = .ok (.invokevirtual 154, 3) := by decide +kernel
theorem d_M_get_22 : decode c_M_get 22 = .ok (.aload_n 0, 1) := by decide +kernel
theorem d_M_get_23 : decode c_M_get 23 = .ok (.iload_n 1, 1) := by decide +kernel
theorem d_M_get_24 : decode c_M_get 24 = .ok (.iload_n 2, 1) := by decide +kernel
theorem d_M_get_25 : decode c_M_get 25 = .ok (.invokevirtual 157, 3) := by decide +kernel
theorem d_M_get_28 : decode c_M_get 28 = .ok (.lstore 4, 2) := by decide +kernel
theorem d_M_get_30 : decode c_M_get 30 = .ok (.lload 4, 2) := by decide +kernel
theorem d_M_get_32 : decode c_M_get 32 = .ok (.lconst 0, 1) := by decide +kernel
theorem d_M_get_33 : decode c_M_get 33 = .ok (.lcmp, 1) := by decide +kernel
theorem d_M_get_34 : decode c_M_get 34 = .ok (.ifCond .ge 8, 3) := by decide +kernel
theorem d_M_get_37 : decode c_M_get 37 = .ok (.aload_n 0, 1) := by decide +kernel
theorem d_M_get_38 : decode c_M_get 38 = .ok (.iload_n 3, 1) := by decide +kernel
theorem d_M_get_39 : decode c_M_get 39 = .ok (.invokevirtual 160, 3) := by decide +kernel
theorem d_M_get_42 : decode c_M_get 42 = .ok (.lload 4, 2) := by decide +kernel
theorem d_M_get_44 : decode c_M_get 44 = .ok (.lreturn, 1) := by decide +kernel
theorem d_M_noNeed_0 : decode c_M_noNeed 0 = .ok (.iload_n 1, 1) := by decide +kernel
theorem d_M_noNeed_1 : decode c_M_noNeed 1 = .ok (.ifCond .lt 25, 3) := by decide +kernel
theorem d_M_noNeed_4 : decode c_M_noNeed 4 = .ok (.iload_n 1, 1) := by decide +kernel
theorem d_M_noNeed_5 : decode c_M_noNeed 5 = .ok (.aload_n 0, 1) := by decide +kernel
theorem d_M_noNeed_6 : decode c_M_noNeed 6 = .ok (.getfield 129, 3) := by decide +kernel
theorem d_M_noNeed_9 : decode c_M_noNeed 9 = .ok (.if_icmp .ge 17, 3) := by decide +kernel
theorem d_M_noNeed_12 : decode c_M_noNeed 12 = .ok (.iload_n 2, 1) := by decide +kernel
theorem d_M_noNeed_13 : decode c_M_noNeed 13 = .ok (.ifCond .lt 13, 3) := by decide +kernel
theorem d_M_noNeed_16 : decode c_M_noNeed 16 = .ok (.iload_n 2, 1) := by decide +kernel
theorem d_M_noNeed_17 : decode c_M_noNeed 17 = .ok (.aload_n 0, 1) := by decide +kernel
theorem d_M_noNeed_18 : decode c_M_noNeed 18 = .ok (.getfield 63, 3) := by decide +kernel
theorem d_M_noNeed_21 : decode c_M_noNeed 21 = .ok (.iload_n 1, 1) := by decide +kernel
theorem d_M_noNeed_22 : decode c_M_noNeed 22 = .ok (.iaload, 1) := by decide +kernel
theorem d_M_noNeed_23 : decode c_M_noNeed 23 = .ok (.if_icmp .lt 7, 3) := by decide +kernel
theorem d_M_noNeed_26 : decode c_M_noNeed 26 = .ok (.iconst 1, 1) := by decide +kernel
theorem d_M_noNeed_27 : decode c_M_noNeed 27 = .ok (.goto 4, 3) := by decide +kernel
theorem d_M_noNeed_30 : decode c_M_noNeed 30 = .ok (.iconst 0, 1) := by decide +kernel
theorem d_M_noNeed_31 : decode c_M_noNeed 31 = .ok (.ireturn, 1) := by decide +kernel
theorem d_M_ask_0 : decode c_M_ask 0 = .ok (.aload_n 0, 1) := by decide +kernel
theorem d_M_ask_1 : decode c_M_ask 1 = .ok (.iload_n 1, 1) := by decide +kernel
theorem d_M_ask_2 : decode c_M_ask 2 = .ok (.iload_n 2, 1) := by decide +kernel
theorem d_M_ask_3 : decode c_M_ask 3 = .ok (.invokevirtual 164, 3) := by decide +kernel
theorem d_M_ask_6 : decode c_M_ask 6 = .ok (.ifCond .eq 7, 3) := by decide +kernel
theorem d_M_ask_9 : decode c_M_ask 9 = .ok (.ldc2_w 152, 3) := by decide +kernel
theorem d_M_ask_12 : decode c_M_ask 12 = .ok (.lreturn, 1) := by decide +kernel
theorem d_M_ask_13 : decode c_M_ask 13 = .ok (.iconst 4, 1) := by decide +kernel
theorem d_M_ask_14 : decode c_M_ask 14 = .ok (.iload_n 1, 1) := by decide +kernel
theorem d_M_ask_15 : decode c_M_ask 15 = .ok (.imul, 1) := by decide +kernel
theorem d_M_ask_16 : decode c_M_ask 16 = .ok (.iload_n 2, 1) := by decide +kernel
theorem d_M_ask_17 : decode c_M_ask 17 = .ok (.iadd, 1) := by decide +kernel
theorem d_M_ask_18 : decode c_M_ask 18 = .ok (.istore_n 3, 1) := by decide +kernel
theorem d_M_ask_19 : decode c_M_ask 19 = .ok (.aload_n 0, 1) := by decide +kernel
theorem d_M_ask_20 : decode c_M_ask 20 = .ok (.getfield 69, 3) := by decide +kernel
theorem d_M_ask_23 : decode c_M_ask 23 = .ok (.iload_n 3, 1) := by decide +kernel
theorem d_M_ask_24 : decode c_M_ask 24 = .ok (.baload, 1) := by decide +kernel
theorem d_M_ask_25 : decode c_M_ask 25 = .ok (.ifCond .eq 22, 3) := by decide +kernel
theorem d_M_ask_28 : decode c_M_ask 28 = .ok (.aload_n 0, 1) := by decide +kernel
theorem d_M_ask_29 : decode c_M_ask 29 = .ok (.aload_n 0, 1) := by decide +kernel
theorem d_M_ask_30 : decode c_M_ask 30 = .ok (.getfield 57, 3) := by decide +kernel
theorem d_M_ask_33 : decode c_M_ask 33 = .ok (.iload_n 1, 1) := by decide +kernel
theorem d_M_ask_34 : decode c_M_ask 34 = .ok (.iaload, 1) := by decide +kernel
theorem d_M_ask_35 : decode c_M_ask 35 = .ok (.aload_n 0, 1) := by decide +kernel
theorem d_M_ask_36 : decode c_M_ask 36 = .ok (.getfield 66, 3) := by decide +kernel
theorem d_M_ask_39 : decode c_M_ask 39 = .ok (.iload_n 3, 1) := by decide +kernel
theorem d_M_ask_40 : decode c_M_ask 40 = .ok (.iaload, 1) := by decide +kernel
theorem d_M_ask_41 : decode c_M_ask 41 = .ok (.invokevirtual 167, 3) := by decide +kernel
theorem d_M_ask_44 : decode c_M_ask 44 = .ok (.goto 9, 3) := by decide +kernel
theorem d_M_ask_47 : decode c_M_ask 47 = .ok (.aload_n 0, 1) := by decide +kernel
theorem d_M_ask_48 : decode c_M_ask 48 = .ok (.getfield 72, 3) := by decide +kernel
theorem d_M_ask_51 : decode c_M_ask 51 = .ok (.iload_n 3, 1) := by decide +kernel
theorem d_M_ask_52 : decode c_M_ask 52 = .ok (.laload, 1) := by decide +kernel
theorem d_M_ask_53 : decode c_M_ask 53 = .ok (.lreturn, 1) := by decide +kernel
theorem d_M_held_0 : decode c_M_held 0 = .ok (.aload_n 0, 1) := by decide +kernel
theorem d_M_held_1 : decode c_M_held 1 = .ok (.iload_n 1, 1) := by decide +kernel
theorem d_M_held_2 : decode c_M_held 2 = .ok (.iload_n 2, 1) := by decide +kernel
theorem d_M_held_3 : decode c_M_held 3 = .ok (.invokevirtual 164, 3) := by decide +kernel
theorem d_M_held_6 : decode c_M_held 6 = .ok (.ifCond .eq 9, 3) := by decide +kernel
theorem d_M_held_9 : decode c_M_held 9 = .ok (.ldc2_w 152, 3) := by decide +kernel
theorem d_M_held_12 : decode c_M_held 12 = .ok (.goto 13, 3) := by decide +kernel
theorem d_M_held_15 : decode c_M_held 15 = .ok (.aload_n 0, 1) := by decide +kernel
theorem d_M_held_16 : decode c_M_held 16 = .ok (.getfield 72, 3) := by decide +kernel
theorem d_M_held_19 : decode c_M_held 19 = .ok (.iconst 4, 1) := by decide +kernel
theorem d_M_held_20 : decode c_M_held 20 = .ok (.iload_n 1, 1) := by decide +kernel
theorem d_M_held_21 : decode c_M_held 21 = .ok (.imul, 1) := by decide +kernel
theorem d_M_held_22 : decode c_M_held 22 = .ok (.iload_n 2, 1) := by decide +kernel
theorem d_M_held_23 : decode c_M_held 23 = .ok (.iadd, 1) := by decide +kernel
theorem d_M_held_24 : decode c_M_held 24 = .ok (.laload, 1) := by decide +kernel
theorem d_M_held_25 : decode c_M_held 25 = .ok (.lreturn, 1) := by decide +kernel
theorem d_M_about_0 : decode c_M_about 0 = .ok (.iload_n 1, 1) := by decide +kernel
theorem d_M_about_1 : decode c_M_about 1 = .ok (.ifCond .lt 20, 3) := by decide +kernel
theorem d_M_about_4 : decode c_M_about 4 = .ok (.iload_n 1, 1) := by decide +kernel
theorem d_M_about_5 : decode c_M_about 5 = .ok (.aload_n 0, 1) := by decide +kernel
theorem d_M_about_6 : decode c_M_about 6 = .ok (.getfield 129, 3) := by decide +kernel
theorem d_M_about_9 : decode c_M_about 9 = .ok (.if_icmp .ge 12, 3) := by decide +kernel
theorem d_M_about_12 : decode c_M_about 12 = .ok (.iload_n 2, 1) := by decide +kernel
theorem d_M_about_13 : decode c_M_about 13 = .ok (.ifCond .lt 8, 3) := by decide +kernel
theorem d_M_about_16 : decode c_M_about 16 = .ok (.iload_n 2, 1) := by decide +kernel
theorem d_M_about_17 : decode c_M_about 17 = .ok (.iconst 3, 1) := by decide +kernel
theorem d_M_about_18 : decode c_M_about 18 = .ok (.if_icmp .le 5, 3) := by decide +kernel
theorem d_M_about_21 : decode c_M_about 21 = .ok (.iconst (-1), 1) := by decide +kernel
theorem d_M_about_22 : decode c_M_about 22 = .ok (.ireturn, 1) := by decide +kernel
theorem d_M_about_23 : decode c_M_about 23 = .ok (.iload_n 2, 1) := by decide +kernel
theorem d_M_about_24 : decode c_M_about 24 = .ok (.ifCond .ne 12, 3) := by decide +kernel
theorem d_M_about_27 : decode c_M_about 27 = .ok (.aload_n 0, 1) := by decide +kernel
theorem d_M_about_28 : decode c_M_about 28 = .ok (.getfield 54, 3) := by decide +kernel
theorem d_M_about_31 : decode c_M_about 31 = .ok (.iload_n 1, 1) := by decide +kernel
theorem d_M_about_32 : decode c_M_about 32 = .ok (.iaload, 1) := by decide +kernel
theorem d_M_about_33 : decode c_M_about 33 = .ok (.goto 37, 3) := by decide +kernel
theorem d_M_about_36 : decode c_M_about 36 = .ok (.iload_n 2, 1) := by decide +kernel
theorem d_M_about_37 : decode c_M_about 37 = .ok (.iconst 1, 1) := by decide +kernel
theorem d_M_about_38 : decode c_M_about 38 = .ok (.if_icmp .ne 12, 3) := by decide +kernel
theorem d_M_about_41 : decode c_M_about 41 = .ok (.aload_n 0, 1) := by decide +kernel
theorem d_M_about_42 : decode c_M_about 42 = .ok (.getfield 57, 3) := by decide +kernel
theorem d_M_about_45 : decode c_M_about 45 = .ok (.iload_n 1, 1) := by decide +kernel
theorem d_M_about_46 : decode c_M_about 46 = .ok (.iaload, 1) := by decide +kernel
theorem d_M_about_47 : decode c_M_about 47 = .ok (.goto 23, 3) := by decide +kernel
theorem d_M_about_50 : decode c_M_about 50 = .ok (.iload_n 2, 1) := by decide +kernel
theorem d_M_about_51 : decode c_M_about 51 = .ok (.iconst 2, 1) := by decide +kernel
theorem d_M_about_52 : decode c_M_about 52 = .ok (.if_icmp .ne 12, 3) := by decide +kernel
theorem d_M_about_55 : decode c_M_about 55 = .ok (.aload_n 0, 1) := by decide +kernel
theorem d_M_about_56 : decode c_M_about 56 = .ok (.getfield 63, 3) := by decide +kernel
theorem d_M_about_59 : decode c_M_about 59 = .ok (.iload_n 1, 1) := by decide +kernel
theorem d_M_about_60 : decode c_M_about 60 = .ok (.iaload, 1) := by decide +kernel
theorem d_M_about_61 : decode c_M_about 61 = .ok (.goto 9, 3) := by decide +kernel
theorem d_M_about_64 : decode c_M_about 64 = .ok (.aload_n 0, 1) := by decide +kernel
theorem d_M_about_65 : decode c_M_about 65 = .ok (.getfield 60, 3) := by decide +kernel
theorem d_M_about_68 : decode c_M_about 68 = .ok (.iload_n 1, 1) := by decide +kernel
theorem d_M_about_69 : decode c_M_about 69 = .ok (.iaload, 1) := by decide +kernel
theorem d_M_about_70 : decode c_M_about 70 = .ok (.ireturn, 1) := by decide +kernel
theorem d_M_broken_0 : decode c_M_broken 0 = .ok (.iload_n 1, 1) := by decide +kernel
theorem d_M_broken_1 : decode c_M_broken 1 = .ok (.ifCond .lt 11, 3) := by decide +kernel
theorem d_M_broken_4 : decode c_M_broken 4 = .ok (.iload_n 1, 1) := by decide +kernel
theorem d_M_broken_5 : decode c_M_broken 5 = .ok (.aload_n 0, 1) := by decide +kernel
theorem d_M_broken_6 : decode c_M_broken 6 = .ok (.getfield 13, 3) := by decide +kernel
theorem d_M_broken_9 : decode c_M_broken 9 = .ok (.if_icmp .lt 5, 3) := by decide +kernel
theorem d_M_broken_12 : decode c_M_broken 12 = .ok (.iconst (-1), 1) := by decide +kernel
theorem d_M_broken_13 : decode c_M_broken 13 = .ok (.ireturn, 1) := by decide +kernel
theorem d_M_broken_14 : decode c_M_broken 14 = .ok (.aload_n 0, 1) := by decide +kernel
theorem d_M_broken_15 : decode c_M_broken 15 = .ok (.getfield 129, 3) := by decide +kernel
theorem d_M_broken_18 : decode c_M_broken 18 = .ok (.istore_n 2, 1) := by decide +kernel
theorem d_M_broken_19 : decode c_M_broken 19 = .ok (.aload_n 0, 1) := by decide +kernel
theorem d_M_broken_20 : decode c_M_broken 20 = .ok (.invokevirtual 154, 3) := by decide +kernel
theorem d_M_broken_23 : decode c_M_broken 23 = .ok (.iconst 0, 1) := by decide +kernel
theorem d_M_broken_24 : decode c_M_broken 24 = .ok (.istore_n 3, 1) := by decide +kernel
theorem d_M_broken_25 : decode c_M_broken 25 = .ok (.iload_n 3, 1) := by decide +kernel
theorem d_M_broken_26 : decode c_M_broken 26 = .ok (.bipush 12, 2) := by decide +kernel
theorem d_M_broken_28 : decode c_M_broken 28 = .ok (.if_icmp .ge 43, 3) := by decide +kernel
theorem d_M_broken_31 : decode c_M_broken 31 = .ok (.aload_n 0, 1) := by decide +kernel
theorem d_M_broken_32 : decode c_M_broken 32 = .ok (.iload_n 1, 1) := by decide +kernel
theorem d_M_broken_33 : decode c_M_broken 33 = .ok (.iload_n 3, 1) := by decide +kernel
theorem d_M_broken_34 : decode c_M_broken 34 = .ok (.invokevirtual 111, 3) := by decide +kernel
theorem d_M_broken_37 : decode c_M_broken 37 = .ok (.ifCond .ge 6, 3) := by decide +kernel
theorem d_M_broken_40 : decode c_M_broken 40 = .ok (.goto 25, 3) := by decide +kernel
theorem d_M_broken_43 : decode c_M_broken 43 = .ok (.aload_n 0, 1) := by decide +kernel
theorem d_M_broken_44 : decode c_M_broken 44 = .ok (.iload_n 1, 1) := by decide +kernel
theorem d_M_broken_45 : decode c_M_broken 45 = .ok (.iload_n 3, 1) := by decide +kernel
theorem d_M_broken_46 : decode c_M_broken 46 = .ok (.invokevirtual 157, 3) := by decide +kernel
theorem d_M_broken_49 : decode c_M_broken 49 = .ok (.lstore 4, 2) := by decide +kernel
theorem d_M_broken_51 : decode c_M_broken 51 = .ok (.aload_n 0, 1) := by decide +kernel
theorem d_M_broken_52 : decode c_M_broken 52 = .ok (.iload_n 2, 1) := by decide +kernel
theorem d_M_broken_53 : decode c_M_broken 53 = .ok (.invokevirtual 160, 3) := by decide +kernel
theorem d_M_broken_56 : decode c_M_broken 56 = .ok (.lload 4, 2) := by decide +kernel
theorem d_M_broken_58 : decode c_M_broken 58 = .ok (.lconst 0, 1) := by decide +kernel
theorem d_M_broken_59 : decode c_M_broken 59 = .ok (.lcmp, 1) := by decide +kernel
theorem d_M_broken_60 : decode c_M_broken 60 = .ok (.ifCond .ge 5, 3) := by decide +kernel
theorem d_M_broken_63 : decode c_M_broken 63 = .ok (.iload_n 3, 1) := by decide +kernel
theorem d_M_broken_64 : decode c_M_broken 64 = .ok (.ireturn, 1) := by decide +kernel
theorem d_M_broken_65 : decode c_M_broken 65 = .ok (.iinc 3 1, 3) := by decide +kernel
theorem d_M_broken_68 : decode c_M_broken 68 = .ok (.goto (-43), 3) := by decide +kernel
theorem d_M_broken_71 : decode c_M_broken 71 = .ok (.bipush 12, 2) := by decide +kernel
theorem d_M_broken_73 : decode c_M_broken 73 = .ok (.ireturn, 1) := by decide +kernel
theorem d_M_reach_0 : decode c_M_reach 0 = .ok (.aload_n 0, 1) := by decide +kernel
theorem d_M_reach_1 : decode c_M_reach 1 = .ok (.iload_n 1, 1) := by decide +kernel
theorem d_M_reach_2 : decode c_M_reach 2 = .ok (.iload_n 2, 1) := by decide +kernel
theorem d_M_reach_3 : decode c_M_reach 3 = .ok (.invokevirtual 88, 3) := by decide +kernel
theorem d_M_reach_6 : decode c_M_reach 6 = .ok (.ifCond .eq 5, 3) := by decide +kernel
theorem d_M_reach_9 : decode c_M_reach 9 = .ok (.iconst (-1), 1) := by decide +kernel
theorem d_M_reach_10 : decode c_M_reach 10 = .ok (.ireturn, 1) := by decide +kernel
theorem d_M_reach_11 : decode c_M_reach 11 = .ok (.lconst 1, 1) := by decide +kernel
theorem d_M_reach_12 : decode c_M_reach 12 = .ok (.bipush 12, 2) := by decide +kernel
theorem d_M_reach_14 : decode c_M_reach 14 = .ok (.iload_n 1, 1) := by decide +kernel
theorem d_M_reach_15 : decode c_M_reach 15 = .ok (.imul, 1) := by decide +kernel
theorem d_M_reach_16 : decode c_M_reach 16 = .ok (.iload_n 2, 1) := by decide +kernel
theorem d_M_reach_17 : decode c_M_reach 17 = .ok (.iadd, 1) := by decide +kernel
theorem d_M_reach_18 : decode c_M_reach 18 = .ok (.lshl, 1) := by decide +kernel
theorem d_M_reach_19 : decode c_M_reach 19 = .ok (.lstore_n 3, 1) := by decide +kernel
theorem d_M_reach_20 : decode c_M_reach 20 = .ok (.iconst 0, 1) := by decide +kernel
theorem d_M_reach_21 : decode c_M_reach 21 = .ok (.istore 5, 2) := by decide +kernel
theorem d_M_reach_23 : decode c_M_reach 23 = .ok (.iload 5, 2) := by decide +kernel
theorem d_M_reach_25 : decode c_M_reach 25 = .ok (.sipush 1296, 3) := by decide +kernel
theorem d_M_reach_28 : decode c_M_reach 28 = .ok (.if_icmp .ge 144, 3) := by decide +kernel
theorem d_M_reach_31 : decode c_M_reach 31 = .ok (.iload 5, 2) := by decide +kernel
theorem d_M_reach_33 : decode c_M_reach 33 = .ok (.bipush 36, 2) := by decide +kernel
theorem d_M_reach_35 : decode c_M_reach 35 = .ok (.irem, 1) := by decide +kernel
theorem d_M_reach_36 : decode c_M_reach 36 = .ok (.istore 6, 2) := by decide +kernel
theorem d_M_reach_38 : decode c_M_reach 38 = .ok (.lload_n 3, 1) := by decide +kernel
theorem d_M_reach_39 : decode c_M_reach 39 = .ok (.lconst 1, 1) := by decide +kernel
theorem d_M_reach_40 : decode c_M_reach 40 = .ok (.iload 6, 2) := by decide +kernel
theorem d_M_reach_42 : decode c_M_reach 42 = .ok (.lshl, 1) := by decide +kernel
theorem d_M_reach_43 : decode c_M_reach 43 = .ok (.land, 1) := by decide +kernel
theorem d_M_reach_44 : decode c_M_reach 44 = .ok (.lconst 0, 1) := by decide +kernel
theorem d_M_reach_45 : decode c_M_reach 45 = .ok (.lcmp, 1) := by decide +kernel
theorem d_M_reach_46 : decode c_M_reach 46 = .ok (.ifCond .ne 6, 3) := by decide +kernel
theorem d_M_reach_49 : decode c_M_reach 49 = .ok (.goto 117, 3) := by decide +kernel
theorem d_M_reach_52 : decode c_M_reach 52 = .ok (.aload_n 0, 1) := by decide +kernel
theorem d_M_reach_53 : decode c_M_reach 53 = .ok (.iload 6, 2) := by decide +kernel
theorem d_M_reach_55 : decode c_M_reach 55 = .ok (.bipush 12, 2) := by decide +kernel
theorem d_M_reach_57 : decode c_M_reach 57 = .ok (.idiv, 1) := by decide +kernel
theorem d_M_reach_58 : decode c_M_reach 58 = .ok (.iload 6, 2) := by decide +kernel
theorem d_M_reach_60 : decode c_M_reach 60 = .ok (.bipush 12, 2) := by decide +kernel
theorem d_M_reach_62 : decode c_M_reach 62 = .ok (.irem, 1) := by decide +kernel
theorem d_M_reach_63 : decode c_M_reach 63 = .ok (.invokevirtual 111, 3) := by decide +kernel
theorem d_M_reach_66 : decode c_M_reach 66 = .ok (.istore 7, 2) := by decide +kernel
theorem d_M_reach_68 : decode c_M_reach 68 = .ok (.iload 7, 2) := by decide +kernel
theorem d_M_reach_70 : decode c_M_reach 70 = .ok (.ifCond .ge 6, 3) := by decide +kernel
theorem d_M_reach_73 : decode c_M_reach 73 = .ok (.goto 93, 3) := by decide +kernel
theorem d_M_reach_76 : decode c_M_reach 76 = .ok (.aload_n 0, 1) := by decide +kernel
theorem d_M_reach_77 : decode c_M_reach 77 = .ok (.getfield 24, 3) := by decide +kernel
theorem d_M_reach_80 : decode c_M_reach 80 = .ok (.iload 7, 2) := by decide +kernel
theorem d_M_reach_82 : decode c_M_reach 82 = .ok (.iaload, 1) := by decide +kernel
theorem d_M_reach_83 : decode c_M_reach 83 = .ok (.iconst 2, 1) := by decide +kernel
theorem d_M_reach_84 : decode c_M_reach 84 = .ok (.if_icmp .ne 24, 3) := by decide +kernel
theorem d_M_reach_87 : decode c_M_reach 87 = .ok (.lload_n 3, 1) := by decide +kernel
theorem d_M_reach_88 : decode c_M_reach 88 = .ok (.lconst 1, 1) := by decide +kernel
theorem d_M_reach_89 : decode c_M_reach 89 = .ok (.iload 7, 2) := by decide +kernel
theorem d_M_reach_91 : decode c_M_reach 91 = .ok (.bipush 12, 2) := by decide +kernel
theorem d_M_reach_93 : decode c_M_reach 93 = .ok (.idiv, 1) := by decide +kernel
theorem d_M_reach_94 : decode c_M_reach 94 = .ok (.bipush 12, 2) := by decide +kernel
theorem d_M_reach_96 : decode c_M_reach 96 = .ok (.imul, 1) := by decide +kernel
theorem d_M_reach_97 : decode c_M_reach 97 = .ok (.aload_n 0, 1) := by decide +kernel
theorem d_M_reach_98 : decode c_M_reach 98 = .ok (.getfield 27, 3) := by decide +kernel
theorem d_M_reach_101 : decode c_M_reach 101 = .ok (.iload 7, 2) := by decide +kernel
theorem d_M_reach_103 : decode c_M_reach 103 = .ok (.iaload, 1) := by decide +kernel
theorem d_M_reach_104 : decode c_M_reach 104 = .ok (.iadd, 1) := by decide +kernel
theorem d_M_reach_105 : decode c_M_reach 105 = .ok (.lshl, 1) := by decide +kernel
theorem d_M_reach_106 : decode c_M_reach 106 = .ok (.lor, 1) := by decide +kernel
theorem d_M_reach_107 : decode c_M_reach 107 = .ok (.lstore_n 3, 1) := by decide +kernel
theorem d_M_reach_108 : decode c_M_reach 108 = .ok (.iconst 0, 1) := by decide +kernel
theorem d_M_reach_109 : decode c_M_reach 109 = .ok (.istore 8, 2) := by decide +kernel
theorem d_M_reach_111 : decode c_M_reach 111 = .ok (.iload 8, 2) := by decide +kernel
theorem d_M_reach_113 : decode c_M_reach 113 = .ok (.aload_n 0, 1) := by decide +kernel
theorem d_M_reach_114 : decode c_M_reach 114 = .ok (.getfield 33, 3) := by decide +kernel
theorem d_M_reach_117 : decode c_M_reach 117 = .ok (.iload 7, 2) := by decide +kernel
theorem d_M_reach_119 : decode c_M_reach 119 = .ok (.iaload, 1) := by decide +kernel
theorem d_M_reach_120 : decode c_M_reach 120 = .ok (.if_icmp .ge 46, 3) := by decide +kernel
theorem d_M_reach_123 : decode c_M_reach 123 = .ok (.aload_n 0, 1) := by decide +kernel
theorem d_M_reach_124 : decode c_M_reach 124 = .ok (.getfield 24, 3) := by decide +kernel
theorem d_M_reach_127 : decode c_M_reach 127 = .ok (.iload 7, 2) := by decide +kernel
theorem d_M_reach_129 : decode c_M_reach 129 = .ok (.iaload, 1) := by decide +kernel
theorem d_M_reach_130 : decode c_M_reach 130 = .ok (.iconst 3, 1) := by decide +kernel
theorem d_M_reach_131 : decode c_M_reach 131 = .ok (.if_icmp .ne 35, 3) := by decide +kernel
theorem d_M_reach_134 : decode c_M_reach 134 = .ok (.lload_n 3, 1) := by decide +kernel
theorem d_M_reach_135 : decode c_M_reach 135 = .ok (.lconst 1, 1) := by decide +kernel
theorem d_M_reach_136 : decode c_M_reach 136 = .ok (.iload 7, 2) := by decide +kernel
theorem d_M_reach_138 : decode c_M_reach 138 = .ok (.bipush 12, 2) := by decide +kernel
theorem d_M_reach_140 : decode c_M_reach 140 = .ok (.idiv, 1) := by decide +kernel
theorem d_M_reach_141 : decode c_M_reach 141 = .ok (.bipush 12, 2) := by decide +kernel
theorem d_M_reach_143 : decode c_M_reach 143 = .ok (.imul, 1) := by decide +kernel
theorem d_M_reach_144 : decode c_M_reach 144 = .ok (.aload_n 0, 1) := by decide +kernel
theorem d_M_reach_145 : decode c_M_reach 145 = .ok (.getfield 36, 3) := by decide +kernel
theorem d_M_reach_148 : decode c_M_reach 148 = .ok (.iconst 4, 1) := by decide +kernel
theorem d_M_reach_149 : decode c_M_reach 149 = .ok (.iload 7, 2) := by decide +kernel
theorem d_M_reach_151 : decode c_M_reach 151 = .ok (.imul, 1) := by decide +kernel
theorem d_M_reach_152 : decode c_M_reach 152 = .ok (.iload 8, 2) := by decide +kernel
theorem d_M_reach_154 : decode c_M_reach 154 = .ok (.iadd, 1) := by decide +kernel
theorem d_M_reach_155 : decode c_M_reach 155 = .ok (.iaload, 1) := by decide +kernel
theorem d_M_reach_156 : decode c_M_reach 156 = .ok (.iadd, 1) := by decide +kernel
theorem d_M_reach_157 : decode c_M_reach 157 = .ok (.lshl, 1) := by decide +kernel
theorem d_M_reach_158 : decode c_M_reach 158 = .ok (.lor, 1) := by decide +kernel
theorem d_M_reach_159 : decode c_M_reach 159 = .ok (.lstore_n 3, 1) := by decide +kernel
theorem d_M_reach_160 : decode c_M_reach 160 = .ok (.iinc 8 1, 3) := by decide +kernel
theorem d_M_reach_163 : decode c_M_reach 163 = .ok (.goto (-52), 3) := by decide +kernel
theorem d_M_reach_166 : decode c_M_reach 166 = .ok (.iinc 5 1, 3) := by decide +kernel
theorem d_M_reach_169 : decode c_M_reach 169 = .ok (.goto (-146), 3) := by decide +kernel
theorem d_M_reach_172 : decode c_M_reach 172 = .ok (.iconst 0, 1) := by decide +kernel
theorem d_M_reach_173 : decode c_M_reach 173 = .ok (.istore 5, 2) := by decide +kernel
theorem d_M_reach_175 : decode c_M_reach 175 = .ok (.iconst 0, 1) := by decide +kernel
theorem d_M_reach_176 : decode c_M_reach 176 = .ok (.istore 6, 2) := by decide +kernel
theorem d_M_reach_178 : decode c_M_reach 178 = .ok (.iload 6, 2) := by decide +kernel
theorem d_M_reach_180 : decode c_M_reach 180 = .ok (.bipush 36, 2) := by decide +kernel
theorem d_M_reach_182 : decode c_M_reach 182 = .ok (.if_icmp .ge 32, 3) := by decide +kernel
theorem d_M_reach_185 : decode c_M_reach 185 = .ok (.lload_n 3, 1) := by decide +kernel
theorem d_M_reach_186 : decode c_M_reach 186 = .ok (.lconst 1, 1) := by decide +kernel
theorem d_M_reach_187 : decode c_M_reach 187 = .ok (.iload 6, 2) := by decide +kernel
theorem d_M_reach_189 : decode c_M_reach 189 = .ok (.lshl, 1) := by decide +kernel
theorem d_M_reach_190 : decode c_M_reach 190 = .ok (.land, 1) := by decide +kernel
theorem d_M_reach_191 : decode c_M_reach 191 = .ok (.lconst 0, 1) := by decide +kernel
theorem d_M_reach_192 : decode c_M_reach 192 = .ok (.lcmp, 1) := by decide +kernel
theorem d_M_reach_193 : decode c_M_reach 193 = .ok (.ifCond .eq 15, 3) := by decide +kernel
theorem d_M_reach_196 : decode c_M_reach 196 = .ok (.iload 5, 2) := by decide +kernel
theorem d_M_reach_198 : decode c_M_reach 198 = .ok (.iconst 1, 1) := by decide +kernel
theorem d_M_reach_199 : decode c_M_reach 199 = .ok (.iload 6, 2) := by decide +kernel
theorem d_M_reach_201 : decode c_M_reach 201 = .ok (.bipush 12, 2) := by decide +kernel
theorem d_M_reach_203 : decode c_M_reach 203 = .ok (.irem, 1) := by decide +kernel
theorem d_M_reach_204 : decode c_M_reach 204 = .ok (.ishl, 1) := by decide +kernel
theorem d_M_reach_205 : decode c_M_reach 205 = .ok (.ior, 1) := by decide +kernel
theorem d_M_reach_206 : decode c_M_reach 206 = .ok (.istore 5, 2) := by decide +kernel
theorem d_M_reach_208 : decode c_M_reach 208 = .ok (.iinc 6 1, 3) := by decide +kernel
theorem d_M_reach_211 : decode c_M_reach 211 = .ok (.goto (-33), 3) := by decide +kernel
theorem d_M_reach_214 : decode c_M_reach 214 = .ok (.iload 5, 2) := by decide +kernel
theorem d_M_reach_216 : decode c_M_reach 216 = .ok (.ireturn, 1) := by decide +kernel
theorem d_M_home_0 : decode c_M_home 0 = .ok (.aload_n 0, 1) := by decide +kernel
theorem d_M_home_1 : decode c_M_home 1 = .ok (.iload_n 1, 1) := by decide +kernel
theorem d_M_home_2 : decode c_M_home 2 = .ok (.iload_n 2, 1) := by decide +kernel
theorem d_M_home_3 : decode c_M_home 3 = .ok (.invokevirtual 88, 3) := by decide +kernel
theorem d_M_home_6 : decode c_M_home 6 = .ok (.ifCond .eq 5, 3) := by decide +kernel
theorem d_M_home_9 : decode c_M_home 9 = .ok (.iconst (-1), 1) := by decide +kernel
theorem d_M_home_10 : decode c_M_home 10 = .ok (.ireturn, 1) := by decide +kernel
theorem d_M_home_11 : decode c_M_home 11 = .ok (.aload_n 0, 1) := by decide +kernel
theorem d_M_home_12 : decode c_M_home 12 = .ok (.iload_n 1, 1) := by decide +kernel
theorem d_M_home_13 : decode c_M_home 13 = .ok (.iload_n 2, 1) := by decide +kernel
theorem d_M_home_14 : decode c_M_home 14 = .ok (.invokevirtual 111, 3) := by decide +kernel
theorem d_M_home_17 : decode c_M_home 17 = .ok (.istore_n 3, 1) := by decide +kernel
theorem d_M_home_18 : decode c_M_home 18 = .ok (.iload_n 3, 1) := by decide +kernel
theorem d_M_home_19 : decode c_M_home 19 = .ok (.ifCond .ge 7, 3) := by decide +kernel
theorem d_M_home_22 : decode c_M_home 22 = .ok (.iconst 3, 1) := by decide +kernel
theorem d_M_home_23 : decode c_M_home 23 = .ok (.goto 7, 3) := by decide +kernel
theorem d_M_home_26 : decode c_M_home 26 = .ok (.iload_n 3, 1) := by decide +kernel
theorem d_M_home_27 : decode c_M_home 27 = .ok (.bipush 12, 2) := by decide +kernel
theorem d_M_home_29 : decode c_M_home 29 = .ok (.idiv, 1) := by decide +kernel
theorem d_M_home_30 : decode c_M_home 30 = .ok (.ireturn, 1) := by decide +kernel
theorem d_M_count_0 : decode c_M_count 0 = .ok (.iload_n 1, 1) := by decide +kernel
theorem d_M_count_1 : decode c_M_count 1 = .ok (.tableswitch 86 0 5 #[39, 44, 49, 57, 65, 73], 39) := by decide +kernel
theorem d_M_count_40 : decode c_M_count 40 = .ok (.aload_n 0, 1) := by decide +kernel
theorem d_M_count_41 : decode c_M_count 41 = .ok (.getfield 13, 3) := by decide +kernel
theorem d_M_count_44 : decode c_M_count 44 = .ok (.ireturn, 1) := by decide +kernel
theorem d_M_count_45 : decode c_M_count 45 = .ok (.aload_n 0, 1) := by decide +kernel
theorem d_M_count_46 : decode c_M_count 46 = .ok (.getfield 129, 3) := by decide +kernel
theorem d_M_count_49 : decode c_M_count 49 = .ok (.ireturn, 1) := by decide +kernel
theorem d_M_count_50 : decode c_M_count 50 = .ok (.aload_n 0, 1) := by decide +kernel
theorem d_M_count_51 : decode c_M_count 51 = .ok (.getfield 24, 3) := by decide +kernel
theorem d_M_count_54 : decode c_M_count 54 = .ok (.invokestatic 104, 3) := by decide +kernel
theorem d_M_count_57 : decode c_M_count 57 = .ok (.ireturn, 1) := by decide +kernel
theorem d_M_count_58 : decode c_M_count 58 = .ok (.aload_n 0, 1) := by decide +kernel
theorem d_M_count_59 : decode c_M_count 59 = .ok (.getfield 42, 3) := by decide +kernel
theorem d_M_count_62 : decode c_M_count 62 = .ok (.invokestatic 104, 3) := by decide +kernel
theorem d_M_count_65 : decode c_M_count 65 = .ok (.ireturn, 1) := by decide +kernel
theorem d_M_count_66 : decode c_M_count 66 = .ok (.aload_n 0, 1) := by decide +kernel
theorem d_M_count_67 : decode c_M_count 67 = .ok (.getfield 45, 3) := by decide +kernel
theorem d_M_count_70 : decode c_M_count 70 = .ok (.invokestatic 104, 3) := by decide +kernel
theorem d_M_count_73 : decode c_M_count 73 = .ok (.ireturn, 1) := by decide +kernel
theorem d_M_count_74 : decode c_M_count 74 = .ok (.aload_n 0, 1) := by decide +kernel
theorem d_M_count_75 : decode c_M_count 75 = .ok (.getfield 100, 3) := by decide +kernel
theorem d_M_count_78 : decode c_M_count 78 = .ok (.ifCond .eq 7, 3) := by decide +kernel
theorem d_M_count_81 : decode c_M_count 81 = .ok (.iconst 1, 1) := by decide +kernel
theorem d_M_count_82 : decode c_M_count 82 = .ok (.goto 4, 3) := by decide +kernel
theorem d_M_count_85 : decode c_M_count 85 = .ok (.iconst 0, 1) := by decide +kernel
theorem d_M_count_86 : decode c_M_count 86 = .ok (.ireturn, 1) := by decide +kernel
theorem d_M_count_87 : decode c_M_count 87 = .ok (.iconst (-1), 1) := by decide +kernel
theorem d_M_count_88 : decode c_M_count 88 = .ok (.ireturn, 1) := by decide +kernel
