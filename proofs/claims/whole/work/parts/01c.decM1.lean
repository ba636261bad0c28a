theorem d_M_init_0 : decode c_M_init 0 = .ok (.aload_n 0, 1) := by decide +kernel
theorem d_M_init_1 : decode c_M_init 1 = .ok (.invokespecial 1, 3) := by decide +kernel
theorem d_M_init_4 : decode c_M_init 4 = .ok (.aload_n 0, 1) := by decide +kernel
theorem d_M_init_5 : decode c_M_init 5 = .ok (.iconst 3, 1) := by decide +kernel
theorem d_M_init_6 : decode c_M_init 6 = .ok (.newarray .int, 2) := by decide +kernel
theorem d_M_init_8 : decode c_M_init 8 = .ok (.putfield 7, 3) := by decide +kernel
theorem d_M_init_11 : decode c_M_init 11 = .ok (.aload_n 0, 1) := by decide +kernel
theorem d_M_init_12 : decode c_M_init 12 = .ok (.iconst 1, 1) := by decide +kernel
theorem d_M_init_13 : decode c_M_init 13 = .ok (.putfield 13, 3) := by decide +kernel
theorem d_M_init_16 : decode c_M_init 16 = .ok (.aload_n 0, 1) := by decide +kernel
theorem d_M_init_17 : decode c_M_init 17 = .ok (.iconst 4, 1) := by decide +kernel
theorem d_M_init_18 : decode c_M_init 18 = .ok (.newarray .int, 2) := by decide +kernel
theorem d_M_init_20 : decode c_M_init 20 = .ok (.putfield 17, 3) := by decide +kernel
theorem d_M_init_23 : decode c_M_init 23 = .ok (.aload_n 0, 1) := by decide +kernel
theorem d_M_init_24 : decode c_M_init 24 = .ok (.iconst 4, 1) := by decide +kernel
theorem d_M_init_25 : decode c_M_init 25 = .ok (.newarray .boolean, 2) := by decide +kernel
theorem d_M_init_27 : decode c_M_init 27 = .ok (.putfield 20, 3) := by decide +kernel
theorem d_M_init_30 : decode c_M_init 30 = .ok (.aload_n 0, 1) := by decide +kernel
theorem d_M_init_31 : decode c_M_init 31 = .ok (.bipush 36, 2) := by decide +kernel
theorem d_M_init_33 : decode c_M_init 33 = .ok (.newarray .int, 2) := by decide +kernel
theorem d_M_init_35 : decode c_M_init 35 = .ok (.putfield 24, 3) := by decide +kernel
theorem d_M_init_38 : decode c_M_init 38 = .ok (.aload_n 0, 1) := by decide +kernel
theorem d_M_init_39 : decode c_M_init 39 = .ok (.bipush 36, 2) := by decide +kernel
theorem d_M_init_41 : decode c_M_init 41 = .ok (.newarray .int, 2) := by decide +kernel
theorem d_M_init_43 : decode c_M_init 43 = .ok (.putfield 27, 3) := by decide +kernel
theorem d_M_init_46 : decode c_M_init 46 = .ok (.aload_n 0, 1) := by decide +kernel
theorem d_M_init_47 : decode c_M_init 47 = .ok (.bipush 36, 2) := by decide +kernel
theorem d_M_init_49 : decode c_M_init 49 = .ok (.newarray .int, 2) := by decide +kernel
theorem d_M_init_51 : decode c_M_init 51 = .ok (.putfield 30, 3) := by decide +kernel
theorem d_M_init_54 : decode c_M_init 54 = .ok (.aload_n 0, 1) := by decide +kernel
theorem d_M_init_55 : decode c_M_init 55 = .ok (.bipush 36, 2) := by decide +kernel
theorem d_M_init_57 : decode c_M_init 57 = .ok (.newarray .int, 2) := by decide +kernel
theorem d_M_init_59 : decode c_M_init 59 = .ok (.putfield 33, 3) := by decide +kernel
theorem d_M_init_62 : decode c_M_init 62 = .ok (.aload_n 0, 1) := by decide +kernel
theorem d_M_init_63 : decode c_M_init 63 = .ok (.sipush 144, 3) := by decide +kernel
theorem d_M_init_66 : decode c_M_init 66 = .ok (.newarray .int, 2) := by decide +kernel
theorem d_M_init_68 : decode c_M_init 68 = .ok (.putfield 36, 3) := by decide +kernel
theorem d_M_init_71 : decode c_M_init 71 = .ok (.aload_n 0, 1) := by decide +kernel
theorem d_M_init_72 : decode c_M_init 72 = .ok (.sipush 144, 3) := by decide +kernel
theorem d_M_init_75 : decode c_M_init 75 = .ok (.newarray .boolean, 2) := by decide +kernel
theorem d_M_init_77 : decode c_M_init 77 = .ok (.putfield 39, 3) := by decide +kernel
theorem d_M_init_80 : decode c_M_init 80 = .ok (.aload_n 0, 1) := by decide +kernel
theorem d_M_init_81 : decode c_M_init 81 = .ok (.bipush 36, 2) := by decide +kernel
theorem d_M_init_83 : decode c_M_init 83 = .ok (.newarray .int, 2) := by decide +kernel
theorem d_M_init_85 : decode c_M_init 85 = .ok (.putfield 42, 3) := by decide +kernel
theorem d_M_init_88 : decode c_M_init 88 = .ok (.aload_n 0, 1) := by decide +kernel
theorem d_M_init_89 : decode c_M_init 89 = .ok (.bipush 36, 2) := by decide +kernel
theorem d_M_init_91 : decode c_M_init 91 = .ok (.newarray .int, 2) := by decide +kernel
theorem d_M_init_93 : decode c_M_init 93 = .ok (.putfield 45, 3) := by decide +kernel
theorem d_M_init_96 : decode c_M_init 96 = .ok (.aload_n 0, 1) := by decide +kernel
theorem d_M_init_97 : decode c_M_init 97 = .ok (.bipush 36, 2) := by decide +kernel
theorem d_M_init_99 : decode c_M_init 99 = .ok (.newarray .int, 2) := by decide +kernel
theorem d_M_init_101 : decode c_M_init 101 = .ok (.putfield 48, 3) := by decide +kernel
theorem d_M_init_104 : decode c_M_init 104 = .ok (.aload_n 0, 1) := by decide +kernel
theorem d_M_init_105 : decode c_M_init 105 = .ok (.bipush 36, 2) := by decide +kernel
theorem d_M_init_107 : decode c_M_init 107 = .ok (.newarray .int, 2) := by decide +kernel
theorem d_M_init_109 : decode c_M_init 109 = .ok (.putfield 51, 3) := by decide +kernel
theorem d_M_init_112 : decode c_M_init 112 = .ok (.aload_n 0, 1) := by decide +kernel
theorem d_M_init_113 : decode c_M_init 113 = .ok (.bipush 100, 2) := by decide +kernel
theorem d_M_init_115 : decode c_M_init 115 = .ok (.newarray .int, 2) := by decide +kernel
theorem d_M_init_117 : decode c_M_init 117 = .ok (.putfield 54, 3) := by decide +kernel
theorem d_M_init_120 : decode c_M_init 120 = .ok (.aload_n 0, 1) := by decide +kernel
theorem d_M_init_121 : decode c_M_init 121 = .ok (.bipush 100, 2) := by decide +kernel
theorem d_M_init_123 : decode c_M_init 123 = .ok (.newarray .int, 2) := by decide +kernel
theorem d_M_init_125 : decode c_M_init 125 = .ok (.putfield 57, 3) := by decide +kernel
theorem d_M_init_128 : decode c_M_init 128 = .ok (.aload_n 0, 1) := by decide +kernel
theorem d_M_init_129 : decode c_M_init 129 = .ok (.bipush 100, 2) := by decide +kernel
theorem d_M_init_131 : decode c_M_init 131 = .ok (.newarray .int, 2) := by decide +kernel
theorem d_M_init_133 : decode c_M_init 133 = .ok (.putfield 60, 3) := by decide +kernel
theorem d_M_init_136 : decode c_M_init 136 = .ok (.aload_n 0, 1) := by decide +kernel
theorem d_M_init_137 : decode c_M_init 137 = .ok (.bipush 100, 2) := by decide +kernel
theorem d_M_init_139 : decode c_M_init 139 = .ok (.newarray .int, 2) := by decide +kernel
theorem d_M_init_141 : decode c_M_init 141 = .ok (.putfield 63, 3) := by decide +kernel
theorem d_M_init_144 : decode c_M_init 144 = .ok (.aload_n 0, 1) := by decide +kernel
theorem d_M_init_145 : decode c_M_init 145 = .ok (.sipush 400, 3) := by decide +kernel
theorem d_M_init_148 : decode c_M_init 148 = .ok (.newarray .int, 2) := by decide +kernel
theorem d_M_init_150 : decode c_M_init 150 = .ok (.putfield 66, 3) := by decide +kernel
theorem d_M_init_153 : decode c_M_init 153 = .ok (.aload_n 0, 1) := by decide +kernel
theorem d_M_init_154 : decode c_M_init 154 = .ok (.sipush 400, 3) := by decide +kernel
theorem d_M_init_157 : decode c_M_init 157 = .ok (.newarray .boolean, 2) := by decide +kernel
theorem d_M_init_159 : decode c_M_init 159 = .ok (.putfield 69, 3) := by decide +kernel
theorem d_M_init_162 : decode c_M_init 162 = .ok (.aload_n 0, 1) := by decide +kernel
theorem d_M_init_163 : decode c_M_init 163 = .ok (.sipush 400, 3) := by decide +kernel
theorem d_M_init_166 : decode c_M_init 166 = .ok (.newarray .long, 2) := by decide +kernel
theorem d_M_init_168 : decode c_M_init 168 = .ok (.putfield 72, 3) := by decide +kernel
theorem d_M_init_171 : decode c_M_init 171 = .ok (.aload_n 0, 1) := by decide +kernel
theorem d_M_init_172 : decode c_M_init 172 = .ok (.bipush 36, 2) := by decide +kernel
theorem d_M_init_174 : decode c_M_init 174 = .ok (.newarray .int, 2) := by decide +kernel
theorem d_M_init_176 : decode c_M_init 176 = .ok (.putfield 76, 3) := by decide +kernel
theorem d_M_init_179 : decode c_M_init 179 = .ok (.aload_n 0, 1) := by decide +kernel
theorem d_M_init_180 : decode c_M_init 180 = .ok (.bipush 36, 2) := by decide +kernel
theorem d_M_init_182 : decode c_M_init 182 = .ok (.newarray .int, 2) := by decide +kernel
theorem d_M_init_184 : decode c_M_init 184 = .ok (.putfield 79, 3) := by decide +kernel
theorem d_M_init_187 : decode c_M_init 187 = .ok (.aload_n 0, 1) := by decide +kernel
theorem d_M_init_188 : decode c_M_init 188 = .ok (.sipush 144, 3) := by decide +kernel
theorem d_M_init_191 : decode c_M_init 191 = .ok (.newarray .long, 2) := by decide +kernel
theorem d_M_init_193 : decode c_M_init 193 = .ok (.putfield 82, 3) := by decide +kernel
theorem d_M_init_196 : decode c_M_init 196 = .ok (.aload_n 0, 1) := by decide +kernel
theorem d_M_init_197 : decode c_M_init 197 = .ok (.getfield 7, 3) := by decide +kernel
theorem d_M_init_200 : decode c_M_init 200 = .ok (.iconst 0, 1) := by decide +kernel
theorem d_M_init_201 : decode c_M_init 201 = .ok (.iconst (-1), 1) := by decide +kernel
theorem d_M_init_202 : decode c_M_init 202 = .ok (.iastore, 1) := by decide +kernel
theorem d_M_init_203 : decode c_M_init 203 = .ok (.return_, 1) := by decide +kernel
theorem d_M_noPair_0 : decode c_M_noPair 0 = .ok (.iload_n 1, 1) := by decide +kernel
theorem d_M_noPair_1 : decode c_M_noPair 1 = .ok (.ifCond .lt 21, 3) := by decide +kernel
theorem d_M_noPair_4 : decode c_M_noPair 4 = .ok (.iload_n 1, 1) := by decide +kernel
theorem d_M_noPair_5 : decode c_M_noPair 5 = .ok (.aload_n 0, 1) := by decide +kernel
theorem d_M_noPair_6 : decode c_M_noPair 6 = .ok (.getfield 13, 3) := by decide +kernel
theorem d_M_noPair_9 : decode c_M_noPair 9 = .ok (.if_icmp .ge 13, 3) := by decide +kernel
theorem d_M_noPair_12 : decode c_M_noPair 12 = .ok (.iload_n 2, 1) := by decide +kernel
theorem d_M_noPair_13 : decode c_M_noPair 13 = .ok (.ifCond .lt 9, 3) := by decide +kernel
theorem d_M_noPair_16 : decode c_M_noPair 16 = .ok (.iload_n 2, 1) := by decide +kernel
theorem d_M_noPair_17 : decode c_M_noPair 17 = .ok (.bipush 11, 2) := by decide +kernel
theorem d_M_noPair_19 : decode c_M_noPair 19 = .ok (.if_icmp .le 7, 3) := by decide +kernel
theorem d_M_noPair_22 : decode c_M_noPair 22 = .ok (.iconst 1, 1) := by decide +kernel
theorem d_M_noPair_23 : decode c_M_noPair 23 = .ok (.goto 4, 3) := by decide +kernel
theorem d_M_noPair_26 : decode c_M_noPair 26 = .ok (.iconst 0, 1) := by decide +kernel
theorem d_M_noPair_27 : decode c_M_noPair 27 = .ok (.ireturn, 1) := by decide +kernel
theorem d_M_child_0 : decode c_M_child 0 = .ok (.iload_n 1, 1) := by decide +kernel
theorem d_M_child_1 : decode c_M_child 1 = .ok (.ifCond .lt 19, 3) := by decide +kernel
theorem d_M_child_4 : decode c_M_child 4 = .ok (.iload_n 1, 1) := by decide +kernel
theorem d_M_child_5 : decode c_M_child 5 = .ok (.aload_n 0, 1) := by decide +kernel
theorem d_M_child_6 : decode c_M_child 6 = .ok (.getfield 13, 3) := by decide +kernel
theorem d_M_child_9 : decode c_M_child 9 = .ok (.if_icmp .ge 11, 3) := by decide +kernel
theorem d_M_child_12 : decode c_M_child 12 = .ok (.aload_n 0, 1) := by decide +kernel
theorem d_M_child_13 : decode c_M_child 13 = .ok (.getfield 13, 3) := by decide +kernel
theorem d_M_child_16 : decode c_M_child 16 = .ok (.iconst 3, 1) := by decide +kernel
theorem d_M_child_17 : decode c_M_child 17 = .ok (.if_icmp .ne 5, 3) := by decide +kernel
theorem d_M_child_20 : decode c_M_child 20 = .ok (.iconst (-1), 1) := by decide +kernel
theorem d_M_child_21 : decode c_M_child 21 = .ok (.ireturn, 1) := by decide +kernel
theorem d_M_child_22 : decode c_M_child 22 = .ok (.aload_n 0, 1) := by decide +kernel
theorem d_M_child_23 : decode c_M_child 23 = .ok (.getfield 7, 3) := by decide +kernel
theorem d_M_child_26 : decode c_M_child 26 = .ok (.aload_n 0, 1) := by decide +kernel
theorem d_M_child_27 : decode c_M_child 27 = .ok (.getfield 13, 3) := by decide +kernel
theorem d_M_child_30 : decode c_M_child 30 = .ok (.iload_n 1, 1) := by decide +kernel
theorem d_M_child_31 : decode c_M_child 31 = .ok (.iastore, 1) := by decide +kernel
theorem d_M_child_32 : decode c_M_child 32 = .ok (.aload_n 0, 1) := by decide +kernel
theorem d_M_child_33 : decode c_M_child 33 = .ok (.dup, 1) := by decide +kernel
theorem d_M_child_34 : decode c_M_child 34 = .ok (.getfield 13, 3) := by decide +kernel
theorem d_M_child_37 : decode c_M_child 37 = .ok (.iconst 1, 1) := by decide +kernel
theorem d_M_child_38 : decode c_M_child 38 = .ok (.iadd, 1) := by decide +kernel
theorem d_M_child_39 : decode c_M_child 39 = .ok (.putfield 13, 3) := by decide +kernel
theorem d_M_child_42 : decode c_M_child 42 = .ok (.aload_n 0, 1) := by decide +kernel
theorem d_M_child_43 : decode c_M_child 43 = .ok (.getfield 13, 3) := by decide +kernel
theorem d_M_child_46 : decode c_M_child 46 = .ok (.iconst 1, 1) := by decide +kernel
theorem d_M_child_47 : decode c_M_child 47 = .ok (.isub, 1) := by decide +kernel
theorem d_M_child_48 : decode c_M_child 48 = .ok (.ireturn, 1) := by decide +kernel
theorem d_M_need_0 : decode c_M_need 0 = .ok (.iload_n 1, 1) := by decide +kernel
theorem d_M_need_1 : decode c_M_need 1 = .ok (.ifCond .lt 17, 3) := by decide +kernel
theorem d_M_need_4 : decode c_M_need 4 = .ok (.iload_n 1, 1) := by decide +kernel
theorem d_M_need_5 : decode c_M_need 5 = .ok (.bipush 11, 2) := by decide +kernel
theorem d_M_need_7 : decode c_M_need 7 = .ok (.if_icmp .gt 11, 3) := by decide +kernel
theorem d_M_need_10 : decode c_M_need 10 = .ok (.aload_n 0, 1) := by decide +kernel
theorem d_M_need_11 : decode c_M_need 11 = .ok (.getfield 85, 3) := by decide +kernel
theorem d_M_need_14 : decode c_M_need 14 = .ok (.iconst 4, 1) := by decide +kernel
theorem d_M_need_15 : decode c_M_need 15 = .ok (.if_icmp .ne 5, 3) := by decide +kernel
theorem d_M_need_18 : decode c_M_need 18 = .ok (.iconst (-1), 1) := by decide +kernel
theorem d_M_need_19 : decode c_M_need 19 = .ok (.ireturn, 1) := by decide +kernel
theorem d_M_need_20 : decode c_M_need 20 = .ok (.aload_n 0, 1) := by decide +kernel
theorem d_M_need_21 : decode c_M_need 21 = .ok (.getfield 17, 3) := by decide +kernel
theorem d_M_need_24 : decode c_M_need 24 = .ok (.aload_n 0, 1) := by decide +kernel
theorem d_M_need_25 : decode c_M_need 25 = .ok (.getfield 85, 3) := by decide +kernel
theorem d_M_need_28 : decode c_M_need 28 = .ok (.iload_n 1, 1) := by decide +kernel
theorem d_M_need_29 : decode c_M_need 29 = .ok (.iastore, 1) := by decide +kernel
theorem d_M_need_30 : decode c_M_need 30 = .ok (.aload_n 0, 1) := by decide +kernel
theorem d_M_need_31 : decode c_M_need 31 = .ok (.getfield 20, 3) := by decide +kernel
theorem d_M_need_34 : decode c_M_need 34 = .ok (.aload_n 0, 1) := by decide +kernel
theorem d_M_need_35 : decode c_M_need 35 = .ok (.getfield 85, 3) := by decide +kernel
theorem d_M_need_38 : decode c_M_need 38 = .ok (.iload_n 2, 1) := by decide +kernel
theorem d_M_need_39 : decode c_M_need 39 = .ok (.bastore, 1) := by decide +kernel
theorem d_M_need_40 : decode c_M_need 40 = .ok (.aload_n 0, 1) := by decide +kernel
theorem d_M_need_41 : decode c_M_need 41 = .ok (.dup, 1) := by decide +kernel
theorem d_M_need_42 : decode c_M_need 42 = .ok (.getfield 85, 3) := by decide +kernel
theorem d_M_need_45 : decode c_M_need 45 = .ok (.iconst 1, 1) := by decide +kernel
theorem d_M_need_46 : decode c_M_need 46 = .ok (.iadd, 1) := by decide +kernel
theorem d_M_need_47 : decode c_M_need 47 = .ok (.putfield 85, 3) := by decide +kernel
theorem d_M_need_50 : decode c_M_need 50 = .ok (.aload_n 0, 1) := by decide +kernel
theorem d_M_need_51 : decode c_M_need 51 = .ok (.getfield 85, 3) := by decide +kernel
theorem d_M_need_54 : decode c_M_need 54 = .ok (.ireturn, 1) := by decide +kernel
theorem d_M_drop_0 : decode c_M_drop 0 = .ok (.aload_n 0, 1) := by decide +kernel
theorem d_M_drop_1 : decode c_M_drop 1 = .ok (.getfield 85, 3) := by decide +kernel
theorem d_M_drop_4 : decode c_M_drop 4 = .ok (.istore_n 1, 1) := by decide +kernel
theorem d_M_drop_5 : decode c_M_drop 5 = .ok (.aload_n 0, 1) := by decide +kernel
theorem d_M_drop_6 : decode c_M_drop 6 = .ok (.iconst 0, 1) := by decide +kernel
theorem d_M_drop_7 : decode c_M_drop 7 = .ok (.putfield 85, 3) := by decide +kernel
theorem d_M_drop_10 : decode c_M_drop 10 = .ok (.iload_n 1, 1) := by decide +kernel
theorem d_M_drop_11 : decode c_M_drop 11 = .ok (.ireturn, 1) := by decide +kernel
theorem d_M_bind_0 : decode c_M_bind 0 = .ok (.aload_n 0, 1) := by decide +kernel
theorem d_M_bind_1 : decode c_M_bind 1 = .ok (.iload_n 1, 1) := by decide +kernel
theorem d_M_bind_2 : decode c_M_bind 2 = .ok (.iload_n 2, 1) := by decide +kernel
theorem d_M_bind_3 : decode c_M_bind 3 = .ok (.invokevirtual 88, 3) := by decide +kernel
theorem d_M_bind_6 : decode c_M_bind 6 = .ok (.ifCond .ne 17, 3) := by decide +kernel
theorem d_M_bind_9 : decode c_M_bind 9 = .ok (.aload_n 0, 1) := by decide +kernel
theorem d_M_bind_10 : decode c_M_bind 10 = .ok (.getfield 24, 3) := by decide +kernel
theorem d_M_bind_13 : decode c_M_bind 13 = .ok (.bipush 12, 2) := by decide +kernel
theorem d_M_bind_15 : decode c_M_bind 15 = .ok (.iload_n 1, 1) := by decide +kernel
theorem d_M_bind_16 : decode c_M_bind 16 = .ok (.imul, 1) := by decide +kernel
theorem d_M_bind_17 : decode c_M_bind 17 = .ok (.iload_n 2, 1) := by decide +kernel
theorem d_M_bind_18 : decode c_M_bind 18 = .ok (.iadd, 1) := by decide +kernel
theorem d_M_bind_19 : decode c_M_bind 19 = .ok (.iaload, 1) := by decide +kernel
theorem d_M_bind_20 : decode c_M_bind 20 = .ok (.ifCond .eq 5, 3) := by decide +kernel
theorem d_M_bind_23 : decode c_M_bind 23 = .ok (.iconst (-1), 1) := by decide +kernel
theorem d_M_bind_24 : decode c_M_bind 24 = .ok (.ireturn, 1) := by decide +kernel
theorem d_M_bind_25 : decode c_M_bind 25 = .ok (.aload_n 0, 1) := by decide +kernel
theorem d_M_bind_26 : decode c_M_bind 26 = .ok (.getfield 24, 3) := by decide +kernel
theorem d_M_bind_29 : decode c_M_bind 29 = .ok (.bipush 12, 2) := by decide +kernel
theorem d_M_bind_31 : decode c_M_bind 31 = .ok (.iload_n 1, 1) := by decide +kernel
theorem d_M_bind_32 : decode c_M_bind 32 = .ok (.imul, 1) := by decide +kernel
theorem d_M_bind_33 : decode c_M_bind 33 = .ok (.iload_n 2, 1) := by decide +kernel
theorem d_M_bind_34 : decode c_M_bind 34 = .ok (.iadd, 1) := by decide +kernel
theorem d_M_bind_35 : decode c_M_bind 35 = .ok (.iload_n 3, 1) := by decide +kernel
theorem d_M_bind_36 : decode c_M_bind 36 = .ok (.iastore, 1) := by decide +kernel
theorem d_M_bind_37 : decode c_M_bind 37 = .ok (.aload_n 0, 1) := by decide +kernel
theorem d_M_bind_38 : decode c_M_bind 38 = .ok (.getfield 27, 3) := by decide +kernel
theorem d_M_bind_41 : decode c_M_bind 41 = .ok (.bipush 12, 2) := by decide +kernel
theorem d_M_bind_43 : decode c_M_bind 43 = .ok (.iload_n 1, 1) := by decide +kernel
theorem d_M_bind_44 : decode c_M_bind 44 = .ok (.imul, 1) := by decide +kernel
theorem d_M_bind_45 : decode c_M_bind 45 = .ok (.iload_n 2, 1) := by decide +kernel
theorem d_M_bind_46 : decode c_M_bind 46 = .ok (.iadd, 1) := by decide +kernel
theorem d_M_bind_47 : decode c_M_bind 47 = .ok (.iload 4, 2) := by decide +kernel
theorem d_M_bind_49 : decode c_M_bind 49 = .ok (.iastore, 1) := by decide +kernel
theorem d_M_bind_50 : decode c_M_bind 50 = .ok (.iconst 1, 1) := by decide +kernel
theorem d_M_bind_51 : decode c_M_bind 51 = .ok (.ireturn, 1) := by decide +kernel
theorem d_M_bindConstant_0 : decode c_M_bindConstant 0 = .ok (.aload_n 0, 1) := by decide +kernel
theorem d_M_bindConstant_1 : decode c_M_bindConstant 1 = .ok (.iload_n 1, 1) := by decide +kernel
theorem d_M_bindConstant_2 : decode c_M_bindConstant 2 = .ok (.iload_n 2, 1) := by decide +kernel
theorem d_M_bindConstant_3 : decode c_M_bindConstant 3 = .ok (.iconst 1, 1) := by decide +kernel
theorem d_M_bindConstant_4 : decode c_M_bindConstant 4 = .ok (.iload_n 3, 1) := by decide +kernel
theorem d_M_bindConstant_5 : decode c_M_bindConstant 5 = .ok (.invokevirtual 92, 3) := by decide +kernel
theorem d_M_bindConstant_8 : decode c_M_bindConstant 8 = .ok (.ireturn, 1) := by decide +kernel
theorem d_M_bindLink_0 : decode c_M_bindLink 0 = .ok (.iload_n 3, 1) := by decide +kernel
theorem d_M_bindLink_1 : decode c_M_bindLink 1 = .ok (.ifCond .lt 9, 3) := by decide +kernel
theorem d_M_bindLink_4 : decode c_M_bindLink 4 = .ok (.iload_n 3, 1) := by decide +kernel
theorem d_M_bindLink_5 : decode c_M_bindLink 5 = .ok (.bipush 11, 2) := by decide +kernel
theorem d_M_bindLink_7 : decode c_M_bindLink 7 = .ok (.if_icmp .le 7, 3) := by decide +kernel
theorem d_M_bindLink_10 : decode c_M_bindLink 10 = .ok (.iconst (-1), 1) := by decide +kernel
theorem d_M_bindLink_11 : decode c_M_bindLink 11 = .ok (.goto 11, 3) := by decide +kernel
theorem d_M_bindLink_14 : decode c_M_bindLink 14 = .ok (.aload_n 0, 1) := by decide +kernel
theorem d_M_bindLink_15 : decode c_M_bindLink 15 = .ok (.iload_n 1, 1) := by decide +kernel
theorem d_M_bindLink_16 : decode c_M_bindLink 16 = .ok (.iload_n 2, 1) := by decide +kernel
theorem d_M_bindLink_17 : decode c_M_bindLink 17 = .ok (.iconst 2, 1) := by decide +kernel
theorem d_M_bindLink_18 : decode c_M_bindLink 18 = .ok (.iload_n 3, 1) := by decide +kernel
theorem d_M_bindLink_19 : decode c_M_bindLink 19 = .ok (.invokevirtual 92, 3) := by decide +kernel
theorem d_M_bindLink_22 : decode c_M_bindLink 22 = .ok (.ireturn, 1) := by decide +kernel
theorem d_M_bindClass_0 : decode c_M_bindClass 0 = .ok (.iload_n 3, 1) := by decide +kernel
theorem d_M_bindClass_1 : decode c_M_bindClass 1 = .ok (.ifCond .lt 20, 3) := by decide +kernel
theorem d_M_bindClass_4 : decode c_M_bindClass 4 = .ok (.iload_n 3, 1) := by decide +kernel
theorem d_M_bindClass_5 : decode c_M_bindClass 5 = .ok (.iconst 2, 1) := by decide +kernel
theorem d_M_bindClass_6 : decode c_M_bindClass 6 = .ok (.if_icmp .gt 15, 3) := by decide +kernel
theorem d_M_bindClass_9 : decode c_M_bindClass 9 = .ok (.aload_n 0, 1) := by decide +kernel
theorem d_M_bindClass_10 : decode c_M_bindClass 10 = .ok (.iload_n 1, 1) := by decide +kernel
theorem d_M_bindClass_11 : decode c_M_bindClass 11 = .ok (.iload_n 2, 1) := by decide +kernel
theorem d_M_bindClass_12 : decode c_M_bindClass 12 = .ok (.iconst 3, 1) := by decide +kernel
theorem d_M_bindClass_13 : decode c_M_bindClass 13 = .ok (.iconst 0, 1) := by decide +kernel
theorem d_M_bindClass_14 : decode c_M_bindClass 14 = .ok (.invokevirtual 92, 3) := by decide +kernel
theorem d_M_bindClass_17 : decode c_M_bindClass 17 = .ok (.iconst (-1), 1) := by decide +kernel
theorem d_M_bindClass_18 : decode c_M_bindClass 18 = .ok (.if_icmp .ne 5, 3) := by decide +kernel
theorem d_M_bindClass_21 : decode c_M_bindClass 21 = .ok (.iconst (-1), 1) := by decide +kernel
theorem d_M_bindClass_22 : decode c_M_bindClass 22 = .ok (.ireturn, 1) := by decide +kernel
theorem d_M_bindClass_23 : decode c_M_bindClass 23 = .ok (.bipush 12, 2) := by decide +kernel
theorem d_M_bindClass_25 : decode c_M_bindClass 25 = .ok (.iload_n 1, 1) := by decide +kernel
theorem d_M_bindClass_26 : decode c_M_bindClass 26 = .ok (.imul, 1) := by decide +kernel
theorem d_M_bindClass_27 : decode c_M_bindClass 27 = .ok (.iload_n 2, 1) := by decide +kernel
theorem d_M_bindClass_28 : decode c_M_bindClass 28 = .ok (.iadd, 1) := by decide +kernel
theorem d_M_bindClass_29 : decode c_M_bindClass 29 = .ok (.istore 4, 2) := by decide +kernel
theorem d_M_bindClass_31 : decode c_M_bindClass 31 = .ok (.aload_n 0, 1) := by decide +kernel
theorem d_M_bindClass_32 : decode c_M_bindClass 32 = .ok (.getfield 30, 3) := by decide +kernel
theorem d_M_bindClass_35 : decode c_M_bindClass 35 = .ok (.iload 4, 2) := by decide +kernel
theorem d_M_bindClass_37 : decode c_M_bindClass 37 = .ok (.iload_n 3, 1) := by decide +kernel
theorem d_M_bindClass_38 : decode c_M_bindClass 38 = .ok (.iastore, 1) := by decide +kernel
theorem d_M_bindClass_39 : decode c_M_bindClass 39 = .ok (.aload_n 0, 1) := by decide +kernel
theorem d_M_bindClass_40 : decode c_M_bindClass 40 = .ok (.getfield 33, 3) := by decide +kernel
theorem d_M_bindClass_43 : decode c_M_bindClass 43 = .ok (.iload 4, 2) := by decide +kernel
theorem d_M_bindClass_45 : decode c_M_bindClass 45 = .ok (.aload_n 0, 1) := by decide +kernel
theorem d_M_bindClass_46 : decode c_M_bindClass 46 = .ok (.getfield 85, 3) := by decide +kernel
theorem d_M_bindClass_49 : decode c_M_bindClass 49 = .ok (.iastore, 1) := by decide +kernel
theorem d_M_bindClass_50 : decode c_M_bindClass 50 = .ok (.iconst 0, 1) := by decide +kernel
theorem d_M_bindClass_51 : decode c_M_bindClass 51 = .ok (.istore 5, 2) := by decide +kernel
theorem d_M_bindClass_53 : decode c_M_bindClass 53 = .ok (.iload 5, 2) := by decide +kernel
theorem d_M_bindClass_55 : decode c_M_bindClass 55 = .ok (.aload_n 0, 1) := by decide +kernel
theorem d_M_bindClass_56 : decode c_M_bindClass 56 = .ok (.getfield 85, 3) := by decide +kernel
theorem d_M_bindClass_59 : decode c_M_bindClass 59 = .ok (.if_icmp .ge 47, 3) := by decide +kernel
theorem d_M_bindClass_62 : decode c_M_bindClass 62 = .ok (.aload_n 0, 1) := by decide +kernel
theorem d_M_bindClass_63 : decode c_M_bindClass 63 = .ok (.getfield 36, 3) := by decide +kernel
theorem d_M_bindClass_66 : decode c_M_bindClass 66 = .ok (.iconst 4, 1) := by decide +kernel
theorem d_M_bindClass_67 : decode c_M_bindClass 67 = .ok (.iload 4, 2) := by decide +kernel
theorem d_M_bindClass_69 : decode c_M_bindClass 69 = .ok (.imul, 1) := by decide +kernel
theorem d_M_bindClass_70 : decode c_M_bindClass 70 = .ok (.iload 5, 2) := by decide +kernel
theorem d_M_bindClass_72 : decode c_M_bindClass 72 = .ok (.iadd, 1) := by decide +kernel
theorem d_M_bindClass_73 : decode c_M_bindClass 73 = .ok (.aload_n 0, 1) := by decide +kernel
theorem d_M_bindClass_74 : decode c_M_bindClass 74 = .ok (.getfield 17, 3) := by decide +kernel
theorem d_M_bindClass_77 : decode c_M_bindClass 77 = .ok (.iload 5, 2) := by decide +kernel
theorem d_M_bindClass_79 : decode c_M_bindClass 79 = .ok (.iaload, 1) := by decide +kernel
theorem d_M_bindClass_80 : decode c_M_bindClass 80 = .ok (.iastore, 1) := by decide +kernel
theorem d_M_bindClass_81 : decode c_M_bindClass 81 = .ok (.aload_n 0, 1) := by decide +kernel
theorem d_M_bindClass_82 : decode c_M_bindClass 82 = .ok (.getfield 39, 3) := by decide +kernel
theorem d_M_bindClass_85 : decode c_M_bindClass 85 = .ok (.iconst 4, 1) := by decide +kernel
theorem d_M_bindClass_86 : decode c_M_bindClass 86 = .ok (.iload 4, 2) := by decide +kernel
theorem d_M_bindClass_88 : decode c_M_bindClass 88 = .ok (.imul, 1) := by decide +kernel
theorem d_M_bindClass_89 : decode c_M_bindClass 89 = .ok (.iload 5, 2) := by decide +kernel
theorem d_M_bindClass_91 : decode c_M_bindClass 91 = .ok (.iadd, 1) := by decide +kernel
theorem d_M_bindClass_92 : decode c_M_bindClass 92 = .ok (.aload_n 0, 1) := by decide +kernel
theorem d_M_bindClass_93 : decode c_M_bindClass 93 = .ok (.getfield 20, 3) := by decide +kernel
theorem d_M_bindClass_96 : decode c_M_bindClass 96 = .ok (.iload 5, 2) := by decide +kernel
theorem d_M_bindClass_98 : decode c_M_bindClass 98 = .ok (.baload, 1) := by decide +kernel
theorem d_M_bindClass_99 : decode c_M_bindClass 99 = .ok (.bastore, 1) := by decide +kernel
theorem d_M_bindClass_100 : decode c_M_bindClass 100 = .ok (.iinc 5 1, 3) := by decide +kernel
theorem d_M_bindClass_103 : decode c_M_bindClass 103 = .ok (.goto (-50), 3) := by decide +kernel
theorem d_M_bindClass_106 : decode c_M_bindClass 106 = .ok (.aload_n 0, 1) := by decide +kernel
theorem d_M_bindClass_107 : decode c_M_bindClass 107 = .ok (.invokevirtual 96, 3) := by decide +kernel
theorem d_M_bindClass_110 : decode c_M_bindClass 110 = .ok (.ireturn, 1) := by decide +kernel
theorem d_M_unbind_0 : decode c_M_unbind 0 = .ok (.aload_n 0, 1) := by decide +kernel
theorem d_M_unbind_1 : decode c_M_unbind 1 = .ok (.iload_n 1, 1) := by decide +kernel
theorem d_M_unbind_2 : decode c_M_unbind 2 = .ok (.iload_n 2, 1) := by decide +kernel
theorem d_M_unbind_3 : decode c_M_unbind 3 = .ok (.invokevirtual 88, 3) := by decide +kernel
theorem d_M_unbind_6 : decode c_M_unbind 6 = .ok (.ifCond .ne 17, 3) := by decide +kernel
theorem d_M_unbind_9 : decode c_M_unbind 9 = .ok (.aload_n 0, 1) := by decide +kernel
theorem d_M_unbind_10 : decode c_M_unbind 10 = .ok (.getfield 24, 3) := by decide +kernel
theorem d_M_unbind_13 : decode c_M_unbind 13 = .ok (.bipush 12, 2) := by decide +kernel
theorem d_M_unbind_15 : decode c_M_unbind 15 = .ok (.iload_n 1, 1) := by decide +kernel
theorem d_M_unbind_16 : decode c_M_unbind 16 = .ok (.imul, 1) := by decide +kernel
theorem d_M_unbind_17 : decode c_M_unbind 17 = .ok (.iload_n 2, 1) := by decide +kernel
theorem d_M_unbind_18 : decode c_M_unbind 18 = .ok (.iadd, 1) := by decide +kernel
theorem d_M_unbind_19 : decode c_M_unbind 19 = .ok (.iaload, 1) := by decide +kernel
theorem d_M_unbind_20 : decode c_M_unbind 20 = .ok (.ifCond .ne 5, 3) := by decide +kernel
theorem d_M_unbind_23 : decode c_M_unbind 23 = .ok (.iconst (-1), 1) := by decide +kernel
theorem d_M_unbind_24 : decode c_M_unbind 24 = .ok (.ireturn, 1) := by decide +kernel
theorem d_M_unbind_25 : decode c_M_unbind 25 = .ok (.bipush 12, 2) := by decide +kernel
theorem d_M_unbind_27 : decode c_M_unbind 27 = .ok (.iload_n 1, 1) := by decide +kernel
theorem d_M_unbind_28 : decode c_M_unbind 28 = .ok (.imul, 1) := by decide +kernel
theorem d_M_unbind_29 : decode c_M_unbind 29 = .ok (.iload_n 2, 1) := by decide +kernel
theorem d_M_unbind_30 : decode c_M_unbind 30 = .ok (.iadd, 1) := by decide +kernel
theorem d_M_unbind_31 : decode c_M_unbind 31 = .ok (.istore_n 3, 1) := by decide +kernel
theorem d_M_unbind_32 : decode c_M_unbind 32 = .ok (.aload_n 0, 1) := by decide +kernel
theorem d_M_unbind_33 : decode c_M_unbind 33 = .ok (.getfield 24, 3) := by decide +kernel
theorem d_M_unbind_36 : decode c_M_unbind 36 = .ok (.iload_n 3, 1) := by decide +kernel
theorem d_M_unbind_37 : decode c_M_unbind 37 = .ok (.iconst 0, 1) := by decide +kernel
theorem d_M_unbind_38 : decode c_M_unbind 38 = .ok (.iastore, 1) := by decide +kernel
theorem d_M_unbind_39 : decode c_M_unbind 39 = .ok (.aload_n 0, 1) := by decide +kernel
theorem d_M_unbind_40 : decode c_M_unbind 40 = .ok (.getfield 42, 3) := by decide +kernel
theorem d_M_unbind_43 : decode c_M_unbind 43 = .ok (.iload_n 3, 1) := by decide +kernel
theorem d_M_unbind_44 : decode c_M_unbind 44 = .ok (.iconst 0, 1) := by decide +kernel
theorem d_M_unbind_45 : decode c_M_unbind 45 = .ok (.iastore, 1) := by decide +kernel
theorem d_M_unbind_46 : decode c_M_unbind 46 = .ok (.aload_n 0, 1) := by decide +kernel
theorem d_M_unbind_47 : decode c_M_unbind 47 = .ok (.getfield 45, 3) := by decide +kernel
theorem d_M_unbind_50 : decode c_M_unbind 50 = .ok (.iload_n 3, 1) := by decide +kernel
theorem d_M_unbind_51 : decode c_M_unbind 51 = .ok (.iconst 0, 1) := by decide +kernel
theorem d_M_unbind_52 : decode c_M_unbind 52 = .ok (.iastore, 1) := by decide +kernel
theorem d_M_unbind_53 : decode c_M_unbind 53 = .ok (.iconst 1, 1) := by decide +kernel
theorem d_M_unbind_54 : decode c_M_unbind 54 = .ok (.ireturn, 1) := by decide +kernel
theorem d_M_open_0 : decode c_M_open 0 = .ok (.aload_n 0, 1) := by decide +kernel
theorem d_M_open_1 : decode c_M_open 1 = .ok (.getfield 100, 3) := by decide +kernel
theorem d_M_open_4 : decode c_M_open 4 = .ok (.ifCond .eq 5, 3) := by decide +kernel
theorem d_M_open_7 : decode c_M_open 7 = .ok (.iconst (-1), 1) := by decide +kernel
theorem d_M_open_8 : decode c_M_open 8 = .ok (.ireturn, 1) := by decide +kernel
theorem d_M_open_9 : decode c_M_open 9 = .ok (.aload_n 0, 1) := by decide +kernel
theorem d_M_open_10 : decode c_M_open 10 = .ok (.iconst 1, 1) := by decide +kernel
theorem d_M_open_11 : decode c_M_open 11 = .ok (.putfield 100, 3) := by decide +kernel
theorem d_M_open_14 : decode c_M_open 14 = .ok (.iconst 1, 1) := by decide +kernel
theorem d_M_open_15 : decode c_M_open 15 = .ok (.ireturn, 1) := by decide +kernel
theorem d_M_filled_0 : decode c_M_filled 0 = .ok (.iconst 0, 1) := by decide +kernel
theorem d_M_filled_1 : decode c_M_filled 1 = .ok (.istore_n 1, 1) := by decide +kernel
theorem d_M_filled_2 : decode c_M_filled 2 = .ok (.iconst 0, 1) := by decide +kernel
theorem d_M_filled_3 : decode c_M_filled 3 = .ok (.istore_n 2, 1) := by decide +kernel
theorem d_M_filled_4 : decode c_M_filled 4 = .ok (.iload_n 2, 1) := by decide +kernel
theorem d_M_filled_5 : decode c_M_filled 5 = .ok (.bipush 36, 2) := by decide +kernel
theorem d_M_filled_7 : decode c_M_filled 7 = .ok (.if_icmp .ge 18, 3) := by decide +kernel
theorem d_M_filled_10 : decode c_M_filled 10 = .ok (.aload_n 0, 1) := by decide +kernel
theorem d_M_filled_11 : decode c_M_filled 11 = .ok (.iload_n 2, 1) := by decide +kernel
theorem d_M_filled_12 : decode c_M_filled 12 = .ok (.iaload, 1) := by decide +kernel
theorem d_M_filled_13 : decode c_M_filled 13 = .ok (.ifCond .eq 6, 3) := by decide +kernel
theorem d_M_filled_16 : decode c_M_filled 16 = .ok (.iinc 1 1, 3) := by decide +kernel
theorem d_M_filled_19 : decode c_M_filled 19 = .ok (.iinc 2 1, 3) := by decide +kernel
theorem d_M_filled_22 : decode c_M_filled 22 = .ok (.goto (-18), 3) := by decide +kernel
theorem d_M_filled_25 : decode c_M_filled 25 = .ok (.iload_n 1, 1) := by decide +kernel
theorem d_M_filled_26 : decode c_M_filled 26 = .ok (.ireturn, 1) := by decide +kernel
theorem d_M_close_0 : decode c_M_close 0 = .ok (.aload_n 0, 1) := by decide +kernel
theorem d_M_close_1 : decode c_M_close 1 = .ok (.getfield 100, 3) := by decide +kernel
theorem d_M_close_4 : decode c_M_close 4 = .ok (.ifCond .ne 5, 3) := by decide +kernel
theorem d_M_close_7 : decode c_M_close 7 = .ok (.iconst (-1), 1) := by decide +kernel
theorem d_M_close_8 : decode c_M_close 8 = .ok (.ireturn, 1) := by decide +kernel
theorem d_M_close_9 : decode c_M_close 9 = .ok (.aload_n 0, 1) := by decide +kernel
theorem d_M_close_10 : decode c_M_close 10 = .ok (.getfield 45, 3) := by decide +kernel
theorem d_M_close_13 : decode c_M_close 13 = .ok (.invokestatic 104, 3) := by decide +kernel
theorem d_M_close_16 : decode c_M_close 16 = .ok (.istore_n 1, 1) := by decide +kernel
theorem d_M_close_17 : decode c_M_close 17 = .ok (.aload_n 0, 1) := by decide +kernel
theorem d_M_close_18 : decode c_M_close 18 = .ok (.iconst 0, 1) := by decide +kernel
theorem d_M_close_19 : decode c_M_close 19 = .ok (.putfield 100, 3) := by decide +kernel
theorem d_M_close_22 : decode c_M_close 22 = .ok (.iconst 0, 1) := by decide +kernel
theorem d_M_close_23 : decode c_M_close 23 = .ok (.istore_n 2, 1) := by decide +kernel
theorem d_M_close_24 : decode c_M_close 24 = .ok (.iload_n 2, 1) := by decide +kernel
theorem d_M_close_25 : decode c_M_close 25 = .ok (.bipush 36, 2) := by decide +kernel
theorem d_M_close_27 : decode c_M_close 27 = .ok (.if_icmp .ge 16, 3) := by decide +kernel
theorem d_M_close_30 : decode c_M_close 30 = .ok (.aload_n 0, 1) := by decide +kernel
theorem d_M_close_31 : decode c_M_close 31 = .ok (.getfield 45, 3) := by decide +kernel
theorem d_M_close_34 : decode c_M_close 34 = .ok (.iload_n 2, 1) := by decide +kernel
theorem d_M_close_35 : decode c_M_close 35 = .ok (.iconst 0, 1) := by decide +kernel
theorem d_M_close_36 : decode c_M_close 36 = .ok (.iastore, 1) := by decide +kernel
theorem d_M_close_37 : decode c_M_close 37 = .ok (.iinc 2 1, 3) := by decide +kernel
theorem d_M_close_40 : decode c_M_close 40 = .ok (.goto (-16), 3) := by decide +kernel
theorem d_M_close_43 : decode c_M_close 43 = .ok (.iload_n 1, 1) := by decide +kernel
theorem d_M_close_44 : decode c_M_close 44 = .ok (.ireturn, 1) := by decide +kernel
theorem d_M_seen_0 : decode c_M_seen 0 = .ok (.iload_n 1, 1) := by decide +kernel
theorem d_M_seen_1 : decode c_M_seen 1 = .ok (.istore_n 3, 1) := by decide +kernel
theorem d_M_seen_2 : decode c_M_seen 2 = .ok (.iload_n 3, 1) := by decide +kernel
theorem d_M_seen_3 : decode c_M_seen 3 = .ok (.ifCond .lt 34, 3) := by decide +kernel
theorem d_M_seen_6 : decode c_M_seen 6 = .ok (.aload_n 0, 1) := by decide +kernel
theorem d_M_seen_7 : decode c_M_seen 7 = .ok (.getfield 24, 3) := by decide +kernel
theorem d_M_seen_10 : decode c_M_seen 10 = .ok (.bipush 12, 2) := by decide +kernel
theorem d_M_seen_12 : decode c_M_seen 12 = .ok (.iload_n 3, 1) := by decide +kernel
theorem d_M_seen_13 : decode c_M_seen 13 = .ok (.imul, 1) := by decide +kernel
theorem d_M_seen_14 : decode c_M_seen 14 = .ok (.iload_n 2, 1) := by decide +kernel
theorem d_M_seen_15 : decode c_M_seen 15 = .ok (.iadd, 1) := by decide +kernel
theorem d_M_seen_16 : decode c_M_seen 16 = .ok (.iaload, 1) := by decide +kernel
theorem d_M_seen_17 : decode c_M_seen 17 = .ok (.ifCond .eq 10, 3) := by decide +kernel
theorem d_M_seen_20 : decode c_M_seen 20 = .ok (.bipush 12, 2) := by decide +kernel
theorem d_M_seen_22 : decode c_M_seen 22 = .ok (.iload_n 3, 1) := by decide +kernel
theorem d_M_seen_23 : decode c_M_seen 23 = .ok (.imul, 1) := by decide +kernel
theorem d_M_seen_24 : decode c_M_seen 24 = .ok (.iload_n 2, 1) := by decide +kernel
theorem d_M_seen_25 : decode c_M_seen 25 = .ok (.iadd, 1) := by decide +kernel
theorem d_M_seen_26 : decode c_M_seen 26 = .ok (.ireturn, 1) := by decide +kernel
theorem d_M_seen_27 : decode c_M_seen 27 = .ok (.aload_n 0, 1) := by decide +kernel
theorem d_M_seen_28 : decode c_M_seen 28 = .ok (.getfield 7, 3) := by decide +kernel
theorem d_M_seen_31 : decode c_M_seen 31 = .ok (.iload_n 3, 1) := by decide +kernel
theorem d_M_seen_32 : decode c_M_seen 32 = .ok (.iaload, 1) := by decide +kernel
theorem d_M_seen_33 : decode c_M_seen 33 = .ok (.istore_n 3, 1) := by decide +kernel
theorem d_M_seen_34 : decode c_M_seen 34 = .ok (.goto (-32), 3) := by decide +kernel
theorem d_M_seen_37 : decode c_M_seen 37 = .ok (.iconst (-1), 1) := by decide +kernel
theorem d_M_seen_38 : decode c_M_seen 38 = .ok (.ireturn, 1) := by decide +kernel
theorem d_M_working_0 : decode c_M_working 0 = .ok (.iconst 0, 1) := by decide +kernel
theorem d_M_working_1 : decode c_M_working 1 = .ok (.istore_n 2, 1) := by decide +kernel
theorem d_M_working_2 : decode c_M_working 2 = .ok (.iload_n 2, 1) := by decide +kernel
theorem d_M_working_3 : decode c_M_working 3 = .ok (.aload_n 0, 1) := by decide +kernel
theorem d_M_working_4 : decode c_M_working 4 = .ok (.getfield 108, 3) := by decide +kernel
theorem d_M_working_7 : decode c_M_working 7 = .ok (.if_icmp .ge 21, 3) := by decide +kernel
theorem d_M_working_10 : decode c_M_working 10 = .ok (.aload_n 0, 1) := by decide +kernel
theorem d_M_working_11 : decode c_M_working 11 = .ok (.getfield 76, 3) := by decide +kernel
theorem d_M_working_14 : decode c_M_working 14 = .ok (.iload_n 2, 1) := by decide +kernel
theorem d_M_working_15 : decode c_M_working 15 = .ok (.iaload, 1) := by decide +kernel
theorem d_M_working_16 : decode c_M_working 16 = .ok (.iload_n 1, 1) := by decide +kernel
theorem d_M_working_17 : decode c_M_working 17 = .ok (.if_icmp .ne 5, 3) := by decide +kernel
theorem d_M_working_20 : decode c_M_working 20 = .ok (.iconst 1, 1) := by decide +kernel
theorem d_M_working_21 : decode c_M_working 21 = .ok (.ireturn, 1) := by decide +kernel
theorem d_M_working_22 : decode c_M_working 22 = .ok (.iinc 2 1, 3) := by decide +kernel
theorem d_M_working_25 : decode c_M_working 25 = .ok (.goto (-23), 3) := by decide +kernel
theorem d_M_working_28 : decode c_M_working 28 = .ok (.iconst 0, 1) := by decide +kernel
theorem d_M_working_29 : decode c_M_working 29 = .ok (.ireturn, 1) := by decide +kernel
theorem d_M_begin_0 : decode c_M_begin 0 = .ok (.aload_n 0, 1) := by decide +kernel
theorem d_M_begin_1 : decode c_M_begin 1 = .ok (.iload_n 1, 1) := by decide +kernel
theorem d_M_begin_2 : decode c_M_begin 2 = .ok (.iload_n 2, 1) := by decide +kernel
theorem d_M_begin_3 : decode c_M_begin 3 = .ok (.invokevirtual 111, 3) := by decide +kernel
theorem d_M_begin_6 : decode c_M_begin 6 = .ok (.istore_n 3, 1) := by decide +kernel
theorem d_M_begin_7 : decode c_M_begin 7 = .ok (.iload_n 3, 1) := by decide +kernel
theorem d_M_begin_8 : decode c_M_begin 8 = .ok (.ifCond .ge 7, 3) := by decide +kernel
theorem d_M_begin_11 : decode c_M_begin 11 = .ok (.ldc2_w 115, 3) := by decide +kernel
theorem d_M_begin_14 : decode c_M_begin 14 = .ok (.lreturn, 1) := by decide +kernel
theorem d_M_begin_15 : decode c_M_begin 15 = .ok (.aload_n 0, 1) := by decide +kernel
theorem d_M_begin_16 : decode c_M_begin 16 = .ok (.getfield 24, 3) := by decide +kernel
theorem d_M_begin_19 : decode c_M_begin 19 = .ok (.iload_n 3, 1) := by decide +kernel
theorem d_M_begin_20 : decode c_M_begin 20 = .ok (.iaload, 1) := by decide +kernel
theorem d_M_begin_21 : decode c_M_begin 21 = .ok (.iconst 1, 1) := by decide +kernel
theorem d_M_begin_22 : decode c_M_begin 22 = .ok (.if_icmp .ne 15, 3) := by decide +kernel
theorem d_M_begin_25 : decode c_M_begin 25 = .ok (.ldc2_w 117, 3) := by decide +kernel
theorem d_M_begin_28 : decode c_M_begin 28 = .ok (.aload_n 0, 1) := by decide +kernel
theorem d_M_begin_29 : decode c_M_begin 29 = .ok (.getfield 27, 3) := by decide +kernel
theorem d_M_begin_32 : decode c_M_begin 32 = .ok (.iload_n 3, 1) := by decide +kernel
theorem d_M_begin_33 : decode c_M_begin 33 = .ok (.iaload, 1) := by decide +kernel
theorem d_M_begin_34 : decode c_M_begin 34 = .ok (.i2l, 1) := by decide +kernel
theorem d_M_begin_35 : decode c_M_begin 35 = .ok (.ladd, 1) := by decide +kernel
theorem d_M_begin_36 : decode c_M_begin 36 = .ok (.lreturn, 1) := by decide +kernel
theorem d_M_begin_37 : decode c_M_begin 37 = .ok (.aload_n 0, 1) := by decide +kernel
theorem d_M_begin_38 : decode c_M_begin 38 = .ok (.getfield 24, 3) := by decide +kernel
theorem d_M_begin_41 : decode c_M_begin 41 = .ok (.iload_n 3, 1) := by decide +kernel
theorem d_M_begin_42 : decode c_M_begin 42 = .ok (.iaload, 1) := by decide +kernel
theorem d_M_begin_43 : decode c_M_begin 43 = .ok (.iconst 3, 1) := by decide +kernel
theorem d_M_begin_44 : decode c_M_begin 44 = .ok (.if_icmp .ne 32, 3) := by decide +kernel
theorem d_M_begin_47 : decode c_M_begin 47 = .ok (.aload_n 0, 1) := by decide +kernel
theorem d_M_begin_48 : decode c_M_begin 48 = .ok (.getfield 30, 3) := by decide +kernel
theorem d_M_begin_51 : decode c_M_begin 51 = .ok (.iload_n 3, 1) := by decide +kernel
theorem d_M_begin_52 : decode c_M_begin 52 = .ok (.iaload, 1) := by decide +kernel
theorem d_M_begin_53 : decode c_M_begin 53 = .ok (.iconst 1, 1) := by decide +kernel
theorem d_M_begin_54 : decode c_M_begin 54 = .ok (.if_icmp .ne 22, 3) := by decide +kernel
theorem d_M_begin_57 : decode c_M_begin 57 = .ok (.aload_n 0, 1) := by decide +kernel
theorem d_M_begin_58 : decode c_M_begin 58 = .ok (.getfield 42, 3) := by decide +kernel
theorem d_M_begin_61 : decode c_M_begin 61 = .ok (.iload_n 3, 1) := by decide +kernel
theorem d_M_begin_62 : decode c_M_begin 62 = .ok (.iaload, 1) := by decide +kernel
theorem d_M_begin_63 : decode c_M_begin 63 = .ok (.ifCond .eq 13, 3) := by decide +kernel
theorem d_M_begin_66 : decode c_M_begin 66 = .ok (.aload_n 0, 1) := by decide +kernel
theorem d_M_begin_67 : decode c_M_begin 67 = .ok (.getfield 42, 3) := by decide +kernel
theorem d_M_begin_70 : decode c_M_begin 70 = .ok (.iload_n 3, 1) := by decide +kernel
theorem d_M_begin_71 : decode c_M_begin 71 = .ok (.iaload, 1) := by decide +kernel
theorem d_M_begin_72 : decode c_M_begin 72 = .ok (.iconst 1, 1) := by decide +kernel
theorem d_M_begin_73 : decode c_M_begin 73 = .ok (.isub, 1) := by decide +kernel
theorem d_M_begin_74 : decode c_M_begin 74 = .ok (.i2l, 1) := by decide +kernel
theorem d_M_begin_75 : decode c_M_begin 75 = .ok (.lreturn, 1) := by decide +kernel
theorem d_M_begin_76 : decode c_M_begin 76 = .ok (.aload_n 0, 1) := by decide +kernel
theorem d_M_begin_77 : decode c_M_begin 77 = .ok (.getfield 24, 3) := by decide +kernel
theorem d_M_begin_80 : decode c_M_begin 80 = .ok (.iload_n 3, 1) := by decide +kernel
theorem d_M_begin_81 : decode c_M_begin 81 = .ok (.iaload, 1) := by decide +kernel
theorem d_M_begin_82 : decode c_M_begin 82 = .ok (.iconst 3, 1) := by decide +kernel
theorem d_M_begin_83 : decode c_M_begin 83 = .ok (.if_icmp .ne 39, 3) := by decide +kernel
theorem d_M_begin_86 : decode c_M_begin 86 = .ok (.aload_n 0, 1) := by decide +kernel
theorem d_M_begin_87 : decode c_M_begin 87 = .ok (.getfield 30, 3) := by decide +kernel
theorem d_M_begin_90 : decode c_M_begin 90 = .ok (.iload_n 3, 1) := by decide +kernel
theorem d_M_begin_91 : decode c_M_begin 91 = .ok (.iaload, 1) := by decide +kernel
theorem d_M_begin_92 : decode c_M_begin 92 = .ok (.iconst 2, 1) := by decide +kernel
theorem d_M_begin_93 : decode c_M_begin 93 = .ok (.if_icmp .ne 29, 3) := by decide +kernel
theorem d_M_begin_96 : decode c_M_begin 96 = .ok (.aload_n 0, 1) := by decide +kernel
theorem d_M_begin_97 : decode c_M_begin 97 = .ok (.getfield 100, 3) := by decide +kernel
theorem d_M_begin_100 : decode c_M_begin 100 = .ok (.ifCond .eq 22, 3) := by decide +kernel
theorem d_M_begin_103 : decode c_M_begin 103 = .ok (.aload_n 0, 1) := by decide +kernel
theorem d_M_begin_104 : decode c_M_begin 104 = .ok (.getfield 45, 3) := by decide +kernel
theorem d_M_begin_107 : decode c_M_begin 107 = .ok (.iload_n 3, 1) := by decide +kernel
theorem d_M_begin_108 : decode c_M_begin 108 = .ok (.iaload, 1) := by decide +kernel
theorem d_M_begin_109 : decode c_M_begin 109 = .ok (.ifCond .eq 13, 3) := by decide +kernel
theorem d_M_begin_112 : decode c_M_begin 112 = .ok (.aload_n 0, 1) := by decide +kernel
theorem d_M_begin_113 : decode c_M_begin 113 = .ok (.getfield 45, 3) := by decide +kernel
theorem d_M_begin_116 : decode c_M_begin 116 = .ok (.iload_n 3, 1) := by decide +kernel
theorem d_M_begin_117 : decode c_M_begin 117 = .ok (.iaload, 1) := by decide +kernel
theorem d_M_begin_118 : decode c_M_begin 118 = .ok (.iconst 1, 1) := by decide +kernel
theorem d_M_begin_119 : decode c_M_begin 119 = .ok (.isub, 1) := by decide +kernel
theorem d_M_begin_120 : decode c_M_begin 120 = .ok (.i2l, 1) := by decide +kernel
theorem d_M_begin_121 : decode c_M_begin 121 = .ok (.lreturn, 1) := by decide +kernel
theorem d_M_begin_122 : decode c_M_begin 122 = .ok (.aload_n 0, 1) := by decide +kernel
theorem d_M_begin_123 : decode c_M_begin 123 = .ok (.iload_n 3, 1) := by decide +kernel
theorem d_M_begin_124 : decode c_M_begin 124 = .ok (.invokevirtual 119, 3) := by decide +kernel
theorem d_M_begin_127 : decode c_M_begin 127 = .ok (.ifCond .eq 7, 3) := by decide +kernel
theorem d_M_begin_130 : decode c_M_begin 130 = .ok (.ldc2_w 123, 3) := by decide +kernel
theorem d_M_begin_133 : decode c_M_begin 133 = .ok (.lreturn, 1) := by decide +kernel
theorem d_M_begin_134 : decode c_M_begin 134 = .ok (.aload_n 0, 1) := by decide +kernel
theorem d_M_begin_135 : decode c_M_begin 135 = .ok (.getfield 24, 3) := by decide +kernel
theorem d_M_begin_138 : decode c_M_begin 138 = .ok (.iload_n 3, 1) := by decide +kernel
theorem d_M_begin_139 : decode c_M_begin 139 = .ok (.iaload, 1) := by decide +kernel
theorem d_M_begin_140 : decode c_M_begin 140 = .ok (.iconst 3, 1) := by decide +kernel
theorem d_M_begin_141 : decode c_M_begin 141 = .ok (.if_icmp .ne 24, 3) := by decide +kernel
theorem d_M_begin_144 : decode c_M_begin 144 = .ok (.aload_n 0, 1) := by decide +kernel
theorem d_M_begin_145 : decode c_M_begin 145 = .ok (.getfield 30, 3) := by decide +kernel
theorem d_M_begin_148 : decode c_M_begin 148 = .ok (.iload_n 3, 1) := by decide +kernel
theorem d_M_begin_149 : decode c_M_begin 149 = .ok (.iaload, 1) := by decide +kernel
theorem d_M_begin_150 : decode c_M_begin 150 = .ok (.iconst 2, 1) := by decide +kernel
theorem d_M_begin_151 : decode c_M_begin 151 = .ok (.if_icmp .ne 14, 3) := by decide +kernel
theorem d_M_begin_154 : decode c_M_begin 154 = .ok (.aload_n 0, 1) := by decide +kernel
theorem d_M_begin_155 : decode c_M_begin 155 = .ok (.getfield 100, 3) := by decide +kernel
theorem d_M_begin_158 : decode c_M_begin 158 = .ok (.ifCond .ne 7, 3) := by decide +kernel
theorem d_M_begin_161 : decode c_M_begin 161 = .ok (.ldc2_w 125, 3) := by decide +kernel
theorem d_M_begin_164 : decode c_M_begin 164 = .ok (.lreturn, 1) := by decide +kernel
theorem d_M_begin_165 : decode c_M_begin 165 = .ok (.aload_n 0, 1) := by decide +kernel
theorem d_M_begin_166 : decode c_M_begin 166 = .ok (.getfield 76, 3) := by decide +kernel
theorem d_M_begin_169 : decode c_M_begin 169 = .ok (.aload_n 0, 1) := by decide +kernel
theorem d_M_begin_170 : decode c_M_begin 170 = .ok (.getfield 108, 3) := by decide +kernel
theorem d_M_begin_173 : decode c_M_begin 173 = .ok (.iload_n 3, 1) := by decide +kernel
theorem d_M_begin_174 : decode c_M_begin 174 = .ok (.iastore, 1) := by decide +kernel
theorem d_M_begin_175 : decode c_M_begin 175 = .ok (.aload_n 0, 1) := by decide +kernel
theorem d_M_begin_176 : decode c_M_begin 176 = .ok (.getfield 79, 3) := by decide +kernel
theorem d_M_begin_179 : decode c_M_begin 179 = .ok (.aload_n 0, 1) := by decide +kernel
theorem d_M_begin_180 : decode c_M_begin 180 = .ok (.getfield 108, 3) := by decide +kernel
theorem d_M_begin_183 : decode c_M_begin 183 = .ok (.iconst 0, 1) := by decide +kernel
theorem d_M_begin_184 : decode c_M_begin 184 = .ok (.iastore, 1) := by decide +kernel
theorem d_M_begin_185 : decode c_M_begin 185 = .ok (.aload_n 0, 1) := by decide +kernel
theorem d_M_begin_186 : decode c_M_begin 186 = .ok (.dup, 1) := by decide +kernel
theorem d_M_begin_187 : decode c_M_begin 187 = .ok (.getfield 108, 3) := by decide +kernel
theorem d_M_begin_190 : decode c_M_begin 190 = .ok (.iconst 1, 1) := by decide +kernel
theorem d_M_begin_191 : decode c_M_begin 191 = .ok (.iadd, 1) := by decide +kernel
theorem d_M_begin_192 : decode c_M_begin 192 = .ok (.putfield 108, 3) := by decide +kernel
theorem d_M_begin_195 : decode c_M_begin 195 = .ok (.ldc2_w 127, 3) := by decide +kernel
theorem d_M_begin_198 : decode c_M_begin 198 = .ok (.lreturn, 1) := by decide +kernel
theorem d_M_make_0 : decode c_M_make 0 = .ok (.aload_n 0, 1) := by decide +kernel
theorem d_M_make_1 : decode c_M_make 1 = .ok (.getfield 129, 3) := by decide +kernel
theorem d_M_make_4 : decode c_M_make 4 = .ok (.bipush 100, 2) := by decide +kernel
theorem d_M_make_6 : decode c_M_make 6 = .ok (.if_icmp .ne 7, 3) := by decide +kernel
theorem d_M_make_9 : decode c_M_make 9 = .ok (.ldc2_w 132, 3) := by decide +kernel
theorem d_M_make_12 : decode c_M_make 12 = .ok (.lreturn, 1) := by decide +kernel
theorem d_M_make_13 : decode c_M_make 13 = .ok (.aload_n 0, 1) := by decide +kernel
theorem d_M_make_14 : decode c_M_make 14 = .ok (.getfield 129, 3) := by decide +kernel
theorem d_M_make_17 : decode c_M_make 17 = .ok (.istore_n 3, 1) := by decide +kernel
theorem d_M_make_18 : decode c_M_make 18 = .ok (.aload_n 0, 1) := by decide +kernel
theorem d_M_make_19 : decode c_M_make 19 = .ok (.getfield 54, 3) := by decide +kernel
theorem d_M_make_22 : decode c_M_make 22 = .ok (.iload_n 3, 1) := by decide +kernel
theorem d_M_make_23 : decode c_M_make 23 = .ok (.iload_n 1, 1) := by decide +kernel
theorem d_M_make_24 : decode c_M_make 24 = .ok (.bipush 12, 2) := by decide +kernel
theorem d_M_make_26 : decode c_M_make 26 = .ok (.irem, 1) := by decide +kernel
theorem d_M_make_27 : decode c_M_make 27 = .ok (.iastore, 1) := by decide +kernel
theorem d_M_make_28 : decode c_M_make 28 = .ok (.aload_n 0, 1) := by decide +kernel
theorem d_M_make_29 : decode c_M_make 29 = .ok (.getfield 57, 3) := by decide +kernel
theorem d_M_make_32 : decode c_M_make 32 = .ok (.iload_n 3, 1) := by decide +kernel
theorem d_M_make_33 : decode c_M_make 33 = .ok (.iload_n 1, 1) := by decide +kernel
theorem d_M_make_34 : decode c_M_make 34 = .ok (.bipush 12, 2) := by decide +kernel
theorem d_M_make_36 : decode c_M_make 36 = .ok (.idiv, 1) := by decide +kernel
theorem d_M_make_37 : decode c_M_make 37 = .ok (.iastore, 1) := by decide +kernel
theorem d_M_make_38 : decode c_M_make 38 = .ok (.aload_n 0, 1) := by decide +kernel
theorem d_M_make_39 : decode c_M_make 39 = .ok (.getfield 60, 3) := by decide +kernel
theorem d_M_make_42 : decode c_M_make 42 = .ok (.iload_n 3, 1) := by decide +kernel
theorem d_M_make_43 : decode c_M_make 43 = .ok (.aload_n 0, 1) := by decide +kernel
theorem d_M_make_44 : decode c_M_make 44 = .ok (.getfield 30, 3) := by decide +kernel
theorem d_M_make_47 : decode c_M_make 47 = .ok (.iload_n 1, 1) := by decide +kernel
theorem d_M_make_48 : decode c_M_make 48 = .ok (.iaload, 1) := by decide +kernel
theorem d_M_make_49 : decode c_M_make 49 = .ok (.iastore, 1) := by decide +kernel
theorem d_M_make_50 : decode c_M_make 50 = .ok (.aload_n 0, 1) := by decide +kernel
theorem d_M_make_51 : decode c_M_make 51 = .ok (.getfield 63, 3) := by decide +kernel
theorem d_M_make_54 : decode c_M_make 54 = .ok (.iload_n 3, 1) := by decide +kernel
theorem d_M_make_55 : decode c_M_make 55 = .ok (.aload_n 0, 1) := by decide +kernel
theorem d_M_make_56 : decode c_M_make 56 = .ok (.getfield 33, 3) := by decide +kernel
theorem d_M_make_59 : decode c_M_make 59 = .ok (.iload_n 1, 1) := by decide +kernel
theorem d_M_make_60 : decode c_M_make 60 = .ok (.iaload, 1) := by decide +kernel
theorem d_M_make_61 : decode c_M_make 61 = .ok (.iastore, 1) := by decide +kernel
theorem d_M_make_62 : decode c_M_make 62 = .ok (.iconst 0, 1) := by decide +kernel
theorem d_M_make_63 : decode c_M_make 63 = .ok (.istore 4, 2) := by decide +kernel
theorem d_M_make_65 : decode c_M_make 65 = .ok (.iload 4, 2) := by decide +kernel
theorem d_M_make_67 : decode c_M_make 67 = .ok (.aload_n 0, 1) := by decide +kernel
theorem d_M_make_68 : decode c_M_make 68 = .ok (.getfield 33, 3) := by decide +kernel
theorem d_M_make_71 : decode c_M_make 71 = .ok (.iload_n 1, 1) := by decide +kernel
theorem d_M_make_72 : decode c_M_make 72 = .ok (.iaload, 1) := by decide +kernel
theorem d_M_make_73 : decode c_M_make 73 = .ok (.if_icmp .ge 75, 3) := by decide +kernel
theorem d_M_make_76 : decode c_M_make 76 = .ok (.aload_n 0, 1) := by decide +kernel
theorem d_M_make_77 : decode c_M_make 77 = .ok (.getfield 66, 3) := by decide +kernel
theorem d_M_make_80 : decode c_M_make 80 = .ok (.iconst 4, 1) := by decide +kernel
theorem d_M_make_81 : decode c_M_make 81 = .ok (.iload_n 3, 1) := by decide +kernel
theorem d_M_make_82 : decode c_M_make 82 = .ok (.imul, 1) := by decide +kernel
theorem d_M_make_83 : decode c_M_make 83 = .ok (.iload 4, 2) := by decide +kernel
theorem d_M_make_85 : decode c_M_make 85 = .ok (.iadd, 1) := by decide +kernel
theorem d_M_make_86 : decode c_M_make 86 = .ok (.aload_n 0, 1) := by decide +kernel
theorem d_M_make_87 : decode c_M_make 87 = .ok (.getfield 36, 3) := by decide +kernel
theorem d_M_make_90 : decode c_M_make 90 = .ok (.iconst 4, 1) := by decide +kernel
theorem d_M_make_91 : decode c_M_make 91 = .ok (.iload_n 1, 1) := by decide +kernel
theorem d_M_make_92 : decode c_M_make 92 = .ok (.imul, 1) := by decide +kernel
theorem d_M_make_93 : decode c_M_make 93 = .ok (.iload 4, 2) := by decide +kernel
theorem d_M_make_95 : decode c_M_make 95 = .ok (.iadd, 1) := by decide +kernel
theorem d_M_make_96 : decode c_M_make 96 = .ok (.iaload, 1) := by decide +kernel
theorem d_M_make_97 : decode c_M_make 97 = .ok (.iastore, 1) := by decide +kernel
theorem d_M_make_98 : decode c_M_make 98 = .ok (.aload_n 0, 1) := by decide +kernel
theorem d_M_make_99 : decode c_M_make 99 = .ok (.getfield 69, 3) := by decide +kernel
theorem d_M_make_102 : decode c_M_make 102 = .ok (.iconst 4, 1) := by decide +kernel
theorem d_M_make_103 : decode c_M_make 103 = .ok (.iload_n 3, 1) := by decide +kernel
theorem d_M_make_104 : decode c_M_make 104 = .ok (.imul, 1) := by decide +kernel
theorem d_M_make_105 : decode c_M_make 105 = .ok (.iload 4, 2) := by decide +kernel
theorem d_M_make_107 : decode c_M_make 107 = .ok (.iadd, 1) := by decide +kernel
theorem d_M_make_108 : decode c_M_make 108 = .ok (.aload_n 0, 1) := by decide +kernel
theorem d_M_make_109 : decode c_M_make 109 = .ok (.getfield 39, 3) := by decide +kernel
theorem d_M_make_112 : decode c_M_make 112 = .ok (.iconst 4, 1) := by decide +kernel
theorem d_M_make_113 : decode c_M_make 113 = .ok (.iload_n 1, 1) := by decide +kernel
theorem d_M_make_114 : decode c_M_make 114 = .ok (.imul, 1) := by decide +kernel
theorem d_M_make_115 : decode c_M_make 115 = .ok (.iload 4, 2) := by decide +kernel
theorem d_M_make_117 : decode c_M_make 117 = .ok (.iadd, 1) := by decide +kernel
theorem d_M_make_118 : decode c_M_make 118 = .ok (.baload, 1) := by decide +kernel
theorem d_M_make_119 : decode c_M_make 119 = .ok (.bastore, 1) := by decide +kernel
theorem d_M_make_120 : decode c_M_make 120 = .ok (.aload_n 0, 1) := by decide +kernel
theorem d_M_make_121 : decode c_M_make 121 = .ok (.getfield 72, 3) := by decide +kernel
theorem d_M_make_124 : decode c_M_make 124 = .ok (.iconst 4, 1) := by decide +kernel
theorem d_M_make_125 : decode c_M_make 125 = .ok (.iload_n 3, 1) := by decide +kernel
theorem d_M_make_126 : decode c_M_make 126 = .ok (.imul, 1) := by decide +kernel
theorem d_M_make_127 : decode c_M_make 127 = .ok (.iload 4, 2) := by decide +kernel
theorem d_M_make_129 : decode c_M_make 129 = .ok (.iadd, 1) := by decide +kernel
theorem d_M_make_130 : decode c_M_make 130 = .ok (.aload_n 0, 1) := by decide +kernel
theorem d_M_make_131 : decode c_M_make 131 = .ok (.getfield 82, 3) := by decide +kernel
theorem d_M_make_134 : decode c_M_make 134 = .ok (.iconst 4, 1) := by decide +kernel
theorem d_M_make_135 : decode c_M_make 135 = .ok (.iload_n 2, 1) := by decide +kernel
theorem d_M_make_136 : decode c_M_make 136 = .ok (.imul, 1) := by decide +kernel
theorem d_M_make_137 : decode c_M_make 137 = .ok (.iload 4, 2) := by decide +kernel
theorem d_M_make_139 : decode c_M_make 139 = .ok (.iadd, 1) := by decide +kernel
theorem d_M_make_140 : decode c_M_make 140 = .ok (.laload, 1) := by decide +kernel
theorem d_M_make_141 : decode c_M_make 141 = .ok (.lastore, 1) := by decide +kernel
theorem d_M_make_142 : decode c_M_make 142 = .ok (.iinc 4 1, 3) := by decide +kernel
theorem d_M_make_145 : decode c_M_make 145 = .ok (.goto (-80), 3) := by decide +kernel
theorem d_M_make_148 : decode c_M_make 148 = .ok (.aload_n 0, 1) := by decide +kernel
theorem d_M_make_149 : decode c_M_make 149 = .ok (.dup, 1) := by decide +kernel
theorem d_M_make_150 : decode c_M_make 150 = .ok (.getfield 129, 3) := by decide +kernel
theorem d_M_make_153 : decode c_M_make 153 = .ok (.iconst 1, 1) := by decide +kernel
theorem d_M_make_154 : decode c_M_make 154 = .ok (.iadd, 1) := by decide +kernel
theorem d_M_make_155 : decode c_M_make 155 = .ok (.putfield 129, 3) := by decide +kernel
theorem d_M_make_158 : decode c_M_make 158 = .ok (.aload_n 0, 1) := by decide +kernel
theorem d_M_make_159 : decode c_M_make 159 = .ok (.getfield 30, 3) := by decide +kernel
theorem d_M_make_162 : decode c_M_make 162 = .ok (.iload_n 1, 1) := by decide +kernel
theorem d_M_make_163 : decode c_M_make 163 = .ok (.iaload, 1) := by decide +kernel
theorem d_M_make_164 : decode c_M_make 164 = .ok (.iconst 1, 1) := by decide +kernel
theorem d_M_make_165 : decode c_M_make 165 = .ok (.if_icmp .ne 13, 3) := by decide +kernel
theorem d_M_make_168 : decode c_M_make 168 = .ok (.aload_n 0, 1) := by decide +kernel
theorem d_M_make_169 : decode c_M_make 169 = .ok (.getfield 42, 3) := by decide +kernel
theorem d_M_make_172 : decode c_M_make 172 = .ok (.iload_n 1, 1) := by decide +kernel
theorem d_M_make_173 : decode c_M_make 173 = .ok (.aload_n 0, 1) := by decide +kernel
theorem d_M_make_174 : decode c_M_make 174 = .ok (.getfield 129, 3) := by decide +kernel
theorem d_M_make_177 : decode c_M_make 177 = .ok (.iastore, 1) := by decide +kernel
theorem d_M_make_178 : decode c_M_make 178 = .ok (.aload_n 0, 1) := by decide +kernel
theorem d_M_make_179 : decode c_M_make 179 = .ok (.getfield 30, 3) := by decide +kernel
theorem d_M_make_182 : decode c_M_make 182 = .ok (.iload_n 1, 1) := by decide +kernel
theorem d_M_make_183 : decode c_M_make 183 = .ok (.iaload, 1) := by decide +kernel
theorem d_M_make_184 : decode c_M_make 184 = .ok (.iconst 2, 1) := by decide +kernel
theorem d_M_make_185 : decode c_M_make 185 = .ok (.if_icmp .ne 13, 3) := by decide +kernel
theorem d_M_make_188 : decode c_M_make 188 = .ok (.aload_n 0, 1) := by decide +kernel
theorem d_M_make_189 : decode c_M_make 189 = .ok (.getfield 45, 3) := by decide +kernel
theorem d_M_make_192 : decode c_M_make 192 = .ok (.iload_n 1, 1) := by decide +kernel
theorem d_M_make_193 : decode c_M_make 193 = .ok (.aload_n 0, 1) := by decide +kernel
theorem d_M_make_194 : decode c_M_make 194 = .ok (.getfield 129, 3) := by decide +kernel
theorem d_M_make_197 : decode c_M_make 197 = .ok (.iastore, 1) := by decide +kernel
theorem d_M_make_198 : decode c_M_make 198 = .ok (.iload_n 3, 1) := by decide +kernel
theorem d_M_make_199 : decode c_M_make 199 = .ok (.i2l, 1) := by decide +kernel
theorem d_M_make_200 : decode c_M_make 200 = .ok (.lreturn, 1) := by decide +kernel
theorem d_M_work_0 : decode c_M_work 0 = .ok (.aload_n 0, 1) := by decide +kernel
theorem d_M_work_1 : decode c_M_work 1 = .ok (.getfield 108, 3) := by decide +kernel
theorem d_M_work_4 : decode c_M_work 4 = .ok (.iconst 1, 1) := by decide +kernel
theorem d_M_work_5 : decode c_M_work 5 = .ok (.isub, 1) := by decide +kernel
theorem d_M_work_6 : decode c_M_work 6 = .ok (.istore_n 1, 1) := by decide +kernel
theorem d_M_work_7 : decode c_M_work 7 = .ok (.aload_n 0, 1) := by decide +kernel
theorem d_M_work_8 : decode c_M_work 8 = .ok (.getfield 76, 3) := by decide +kernel
theorem d_M_work_11 : decode c_M_work 11 = .ok (.iload_n 1, 1) := by decide +kernel
theorem d_M_work_12 : decode c_M_work 12 = .ok (.iaload, 1) := by decide +kernel
theorem d_M_work_13 : decode c_M_work 13 = .ok (.istore_n 2, 1) := by decide +kernel
theorem d_M_work_14 : decode c_M_work 14 = .ok (.aload_n 0, 1) := by decide +kernel
theorem d_M_work_15 : decode c_M_work 15 = .ok (.getfield 24, 3) := by decide +kernel
theorem d_M_work_18 : decode c_M_work 18 = .ok (.iload_n 2, 1) := by decide +kernel
theorem d_M_work_19 : decode c_M_work 19 = .ok (.iaload, 1) := by decide +kernel
theorem d_M_work_20 : decode c_M_work 20 = .ok (.iconst 2, 1) := by decide +kernel
theorem d_M_work_21 : decode c_M_work 21 = .ok (.if_icmp .ne 38, 3) := by decide +kernel
theorem d_M_work_24 : decode c_M_work 24 = .ok (.aload_n 0, 1) := by decide +kernel
theorem d_M_work_25 : decode c_M_work 25 = .ok (.getfield 79, 3) := by decide +kernel
theorem d_M_work_28 : decode c_M_work 28 = .ok (.iload_n 1, 1) := by decide +kernel
theorem d_M_work_29 : decode c_M_work 29 = .ok (.iaload, 1) := by decide +kernel
theorem d_M_work_30 : decode c_M_work 30 = .ok (.ifCond .ne 20, 3) := by decide +kernel
theorem d_M_work_33 : decode c_M_work 33 = .ok (.aload_n 0, 1) := by decide +kernel
theorem d_M_work_34 : decode c_M_work 34 = .ok (.iload_n 2, 1) := by decide +kernel
theorem d_M_work_35 : decode c_M_work 35 = .ok (.bipush 12, 2) := by decide +kernel
theorem d_M_work_37 : decode c_M_work 37 = .ok (.idiv, 1) := by decide +kernel
theorem d_M_work_38 : decode c_M_work 38 = .ok (.aload_n 0, 1) := by decide +kernel
theorem d_M_work_39 : decode c_M_work 39 = .ok (.getfield 27, 3) := by decide +kernel
theorem d_M_work_42 : decode c_M_work 42 = .ok (.iload_n 2, 1) := by decide +kernel
theorem d_M_work_43 : decode c_M_work 43 = .ok (.iaload, 1) := by decide +kernel
theorem d_M_work_44 : decode c_M_work 44 = .ok (.invokevirtual 134, 3) := by decide +kernel
theorem d_M_work_47 : decode c_M_work 47 = .ok (.goto 11, 3) := by decide +kernel
theorem d_M_work_50 : decode c_M_work 50 = .ok (.aload_n 0, 1) := by decide +kernel
theorem d_M_work_51 : decode c_M_work 51 = .ok (.getfield 82, 3) := by decide +kernel
theorem d_M_work_54 : decode c_M_work 54 = .ok (.iconst 4, 1) := by decide +kernel
theorem d_M_work_55 : decode c_M_work 55 = .ok (.iload_n 1, 1) := by decide +kernel
theorem d_M_work_56 : decode c_M_work 56 = .ok (.imul, 1) := by decide +kernel
theorem d_M_work_57 : decode c_M_work 57 = .ok (.laload, 1) := by decide +kernel
theorem d_M_work_58 : decode c_M_work 58 = .ok (.lreturn, 1) := by decide +kernel
theorem d_M_work_59 : decode c_M_work 59 = .ok (.aload_n 0, 1) := by decide +kernel
theorem d_M_work_60 : decode c_M_work 60 = .ok (.getfield 79, 3) := by decide +kernel
theorem d_M_work_63 : decode c_M_work 63 = .ok (.iload_n 1, 1) := by decide +kernel
theorem d_M_work_64 : decode c_M_work 64 = .ok (.iaload, 1) := by decide +kernel
theorem d_M_work_65 : decode c_M_work 65 = .ok (.aload_n 0, 1) := by decide +kernel
theorem d_M_work_66 : decode c_M_work 66 = .ok (.getfield 33, 3) := by decide +kernel
theorem d_M_work_69 : decode c_M_work 69 = .ok (.iload_n 2, 1) := by decide +kernel
theorem d_M_work_70 : decode c_M_work 70 = .ok (.iaload, 1) := by decide +kernel
theorem d_M_work_71 : decode c_M_work 71 = .ok (.if_icmp .ge 102, 3) := by decide +kernel
theorem d_M_work_74 : decode c_M_work 74 = .ok (.iconst 4, 1) := by decide +kernel
theorem d_M_work_75 : decode c_M_work 75 = .ok (.iload_n 2, 1) := by decide +kernel
theorem d_M_work_76 : decode c_M_work 76 = .ok (.imul, 1) := by decide +kernel
theorem d_M_work_77 : decode c_M_work 77 = .ok (.aload_n 0, 1) := by decide +kernel
theorem d_M_work_78 : decode c_M_work 78 = .ok (.getfield 79, 3) := by decide +kernel
theorem d_M_work_81 : decode c_M_work 81 = .ok (.iload_n 1, 1) := by decide +kernel
theorem d_M_work_82 : decode c_M_work 82 = .ok (.iaload, 1) := by decide +kernel
theorem d_M_work_83 : decode c_M_work 83 = .ok (.iadd, 1) := by decide +kernel
theorem d_M_work_84 : decode c_M_work 84 = .ok (.istore_n 3, 1) := by decide +kernel
theorem d_M_work_85 : decode c_M_work 85 = .ok (.aload_n 0, 1) := by decide +kernel
theorem d_M_work_86 : decode c_M_work 86 = .ok (.getfield 39, 3) := by decide +kernel
theorem d_M_work_89 : decode c_M_work 89 = .ok (.iload_n 3, 1) := by decide +kernel
theorem d_M_work_90 : decode c_M_work 90 = .ok (.baload, 1) := by decide +kernel
theorem d_M_work_91 : decode c_M_work 91 = .ok (.ifCond .eq 26, 3) := by decide +kernel
theorem d_M_work_94 : decode c_M_work 94 = .ok (.ldc2_w 138, 3) := by decide +kernel
theorem d_M_work_97 : decode c_M_work 97 = .ok (.bipush 16, 2) := by decide +kernel
theorem d_M_work_99 : decode c_M_work 99 = .ok (.iload_n 2, 1) := by decide +kernel
theorem d_M_work_100 : decode c_M_work 100 = .ok (.bipush 12, 2) := by decide +kernel
theorem d_M_work_102 : decode c_M_work 102 = .ok (.idiv, 1) := by decide +kernel
theorem d_M_work_103 : decode c_M_work 103 = .ok (.imul, 1) := by decide +kernel
theorem d_M_work_104 : decode c_M_work 104 = .ok (.i2l, 1) := by decide +kernel
theorem d_M_work_105 : decode c_M_work 105 = .ok (.ladd, 1) := by decide +kernel
theorem d_M_work_106 : decode c_M_work 106 = .ok (.aload_n 0, 1) := by decide +kernel
theorem d_M_work_107 : decode c_M_work 107 = .ok (.getfield 36, 3) := by decide +kernel
theorem d_M_work_110 : decode c_M_work 110 = .ok (.iload_n 3, 1) := by decide +kernel
theorem d_M_work_111 : decode c_M_work 111 = .ok (.iaload, 1) := by decide +kernel
theorem d_M_work_112 : decode c_M_work 112 = .ok (.i2l, 1) := by decide +kernel
theorem d_M_work_113 : decode c_M_work 113 = .ok (.ladd, 1) := by decide +kernel
theorem d_M_work_114 : decode c_M_work 114 = .ok (.goto 17, 3) := by decide +kernel
theorem d_M_work_117 : decode c_M_work 117 = .ok (.aload_n 0, 1) := by decide +kernel
theorem d_M_work_118 : decode c_M_work 118 = .ok (.iload_n 2, 1) := by decide +kernel
theorem d_M_work_119 : decode c_M_work 119 = .ok (.bipush 12, 2) := by decide +kernel
theorem d_M_work_121 : decode c_M_work 121 = .ok (.idiv, 1) := by decide +kernel
theorem d_M_work_122 : decode c_M_work 122 = .ok (.aload_n 0, 1) := by decide +kernel
theorem d_M_work_123 : decode c_M_work 123 = .ok (.getfield 36, 3) := by decide +kernel
theorem d_M_work_126 : decode c_M_work 126 = .ok (.iload_n 3, 1) := by decide +kernel
theorem d_M_work_127 : decode c_M_work 127 = .ok (.iaload, 1) := by decide +kernel
theorem d_M_work_128 : decode c_M_work 128 = .ok (.invokevirtual 134, 3) := by decide +kernel
theorem d_M_work_131 : decode c_M_work 131 = .ok (.lstore 4, 2) := by decide +kernel
theorem d_M_work_133 : decode c_M_work 133 = .ok (.lload 4, 2) := by decide +kernel
theorem d_M_work_135 : decode c_M_work 135 = .ok (.lconst 0, 1) := by decide +kernel
theorem d_M_work_136 : decode c_M_work 136 = .ok (.lcmp, 1) := by decide +kernel
theorem d_M_work_137 : decode c_M_work 137 = .ok (.ifCond .ge 6, 3) := by decide +kernel
theorem d_M_work_140 : decode c_M_work 140 = .ok (.lload 4, 2) := by decide +kernel
theorem d_M_work_142 : decode c_M_work 142 = .ok (.lreturn, 1) := by decide +kernel
theorem d_M_work_143 : decode c_M_work 143 = .ok (.aload_n 0, 1) := by decide +kernel
theorem d_M_work_144 : decode c_M_work 144 = .ok (.getfield 82, 3) := by decide +kernel
theorem d_M_work_147 : decode c_M_work 147 = .ok (.iconst 4, 1) := by decide +kernel
theorem d_M_work_148 : decode c_M_work 148 = .ok (.iload_n 1, 1) := by decide +kernel
theorem d_M_work_149 : decode c_M_work 149 = .ok (.imul, 1) := by decide +kernel
theorem d_M_work_150 : decode c_M_work 150 = .ok (.aload_n 0, 1) := by decide +kernel
theorem d_M_work_151 : decode c_M_work 151 = .ok (.getfield 79, 3) := by decide +kernel
theorem d_M_work_154 : decode c_M_work 154 = .ok (.iload_n 1, 1) := by decide +kernel
theorem d_M_work_155 : decode c_M_work 155 = .ok (.iaload, 1) := by decide +kernel
theorem d_M_work_156 : decode c_M_work 156 = .ok (.iadd, 1) := by decide +kernel
theorem d_M_work_157 : decode c_M_work 157 = .ok (.lload 4, 2) := by decide +kernel
theorem d_M_work_159 : decode c_M_work 159 = .ok (.lastore, 1) := by decide +kernel
theorem d_M_work_160 : decode c_M_work 160 = .ok (.aload_n 0, 1) := by decide +kernel
theorem d_M_work_161 : decode c_M_work 161 = .ok (.getfield 79, 3) := by decide +kernel
theorem d_M_work_164 : decode c_M_work 164 = .ok (.iload_n 1, 1) := by decide +kernel
theorem d_M_work_165 : decode c_M_work 165 = .ok (.dup2, 1) := by decide +kernel
theorem d_M_work_166 : decode c_M_work 166 = .ok (.iaload, 1) := by decide +kernel
theorem d_M_work_167 : decode c_M_work 167 = .ok (.iconst 1, 1) := by decide +kernel
theorem d_M_work_168 : decode c_M_work 168 = .ok (.iadd, 1) := by decide +kernel
theorem d_M_work_169 : decode c_M_work 169 = .ok (.iastore, 1) := by decide +kernel
theorem d_M_work_170 : decode c_M_work 170 = .ok (.goto (-111), 3) := by decide +kernel
theorem d_M_work_173 : decode c_M_work 173 = .ok (.aload_n 0, 1) := by decide +kernel
theorem d_M_work_174 : decode c_M_work 174 = .ok (.iload_n 2, 1) := by decide +kernel
theorem d_M_work_175 : decode c_M_work 175 = .ok (.iload_n 1, 1) := by decide +kernel
theorem d_M_work_176 : decode c_M_work 176 = .ok (.invokevirtual 140, 3) := by decide +kernel
theorem d_M_work_179 : decode c_M_work 179 = .ok (.lreturn, 1) := by decide +kernel
