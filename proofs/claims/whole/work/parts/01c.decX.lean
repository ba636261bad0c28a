theorem d_X_init_0 : decode c_X_init 0 = .ok (.aload_n 0, 1) := by decide +kernel
theorem d_X_init_1 : decode c_X_init 1 = .ok (.invokespecial 3, 3) := by decide +kernel
theorem d_X_init_4 : decode c_X_init 4 = .ok (.aload_n 0, 1) := by decide +kernel
theorem d_X_init_5 : decode c_X_init 5 = .ok (.iconst 3, 1) := by decide +kernel
theorem d_X_init_6 : decode c_X_init 6 = .ok (.newarray .int, 2) := by decide +kernel
theorem d_X_init_8 : decode c_X_init 8 = .ok (.putfield 9, 3) := by decide +kernel
theorem d_X_init_11 : decode c_X_init 11 = .ok (.aload_n 0, 1) := by decide +kernel
theorem d_X_init_12 : decode c_X_init 12 = .ok (.getfield 9, 3) := by decide +kernel
theorem d_X_init_15 : decode c_X_init 15 = .ok (.iconst 0, 1) := by decide +kernel
theorem d_X_init_16 : decode c_X_init 16 = .ok (.iconst (-1), 1) := by decide +kernel
theorem d_X_init_17 : decode c_X_init 17 = .ok (.iastore, 1) := by decide +kernel
theorem d_X_init_18 : decode c_X_init 18 = .ok (.aload_n 0, 1) := by decide +kernel
theorem d_X_init_19 : decode c_X_init 19 = .ok (.iconst 1, 1) := by decide +kernel
theorem d_X_init_20 : decode c_X_init 20 = .ok (.putfield 13, 3) := by decide +kernel
theorem d_X_init_23 : decode c_X_init 23 = .ok (.aload_n 0, 1) := by decide +kernel
theorem d_X_init_24 : decode c_X_init 24 = .ok (.bipush 36, 2) := by decide +kernel
theorem d_X_init_26 : decode c_X_init 26 = .ok (.anewarray 17, 3) := by decide +kernel
theorem d_X_init_29 : decode c_X_init 29 = .ok (.putfield 19, 3) := by decide +kernel
theorem d_X_init_32 : decode c_X_init 32 = .ok (.aload_n 0, 1) := by decide +kernel
theorem d_X_init_33 : decode c_X_init 33 = .ok (.bipush 100, 2) := by decide +kernel
theorem d_X_init_35 : decode c_X_init 35 = .ok (.anewarray 17, 3) := by decide +kernel
theorem d_X_init_38 : decode c_X_init 38 = .ok (.putfield 23, 3) := by decide +kernel
theorem d_X_init_41 : decode c_X_init 41 = .ok (.aload_n 0, 1) := by decide +kernel
theorem d_X_init_42 : decode c_X_init 42 = .ok (.sipush 400, 3) := by decide +kernel
theorem d_X_init_45 : decode c_X_init 45 = .ok (.newarray .long, 2) := by decide +kernel
theorem d_X_init_47 : decode c_X_init 47 = .ok (.putfield 26, 3) := by decide +kernel
theorem d_X_init_50 : decode c_X_init 50 = .ok (.aload_n 0, 1) := by decide +kernel
theorem d_X_init_51 : decode c_X_init 51 = .ok (.sipush 144, 3) := by decide +kernel
theorem d_X_init_54 : decode c_X_init 54 = .ok (.newarray .long, 2) := by decide +kernel
theorem d_X_init_56 : decode c_X_init 56 = .ok (.putfield 30, 3) := by decide +kernel
theorem d_X_init_59 : decode c_X_init 59 = .ok (.aload_n 0, 1) := by decide +kernel
theorem d_X_init_60 : decode c_X_init 60 = .ok (.new 33, 3) := by decide +kernel
theorem d_X_init_63 : decode c_X_init 63 = .ok (.dup, 1) := by decide +kernel
theorem d_X_init_64 : decode c_X_init 64 = .ok (.invokespecial 35, 3) := by decide +kernel
theorem d_X_init_67 : decode c_X_init 67 = .ok (.putfield 36, 3) := by decide +kernel
theorem d_X_init_70 : decode c_X_init 70 = .ok (.return_, 1) := by decide +kernel
theorem d_X_child_0 : decode c_X_child 0 = .ok (.aload_n 0, 1) := by decide +kernel
theorem d_X_child_1 : decode c_X_child 1 = .ok (.iload_n 1, 1) := by decide +kernel
theorem d_X_child_2 : decode c_X_child 2 = .ok (.invokevirtual 40, 3) := by decide +kernel
theorem d_X_child_5 : decode c_X_child 5 = .ok (.ifCond .eq 11, 3) := by decide +kernel
theorem d_X_child_8 : decode c_X_child 8 = .ok (.aload_n 0, 1) := by decide +kernel
theorem d_X_child_9 : decode c_X_child 9 = .ok (.getfield 13, 3) := by decide +kernel
theorem d_X_child_12 : decode c_X_child 12 = .ok (.iconst 3, 1) := by decide +kernel
theorem d_X_child_13 : decode c_X_child 13 = .ok (.if_icmp .lt 5, 3) := by decide +kernel
theorem d_X_child_16 : decode c_X_child 16 = .ok (.iconst (-1), 1) := by decide +kernel
theorem d_X_child_17 : decode c_X_child 17 = .ok (.ireturn, 1) := by decide +kernel
theorem d_X_child_18 : decode c_X_child 18 = .ok (.aload_n 0, 1) := by decide +kernel
theorem d_X_child_19 : decode c_X_child 19 = .ok (.getfield 13, 3) := by decide +kernel
theorem d_X_child_22 : decode c_X_child 22 = .ok (.istore_n 2, 1) := by decide +kernel
theorem d_X_child_23 : decode c_X_child 23 = .ok (.aload_n 0, 1) := by decide +kernel
theorem d_X_child_24 : decode c_X_child 24 = .ok (.getfield 9, 3) := by decide +kernel
theorem d_X_child_27 : decode c_X_child 27 = .ok (.iload_n 2, 1) := by decide +kernel
theorem d_X_child_28 : decode c_X_child 28 = .ok (.iload_n 1, 1) := by decide +kernel
theorem d_X_child_29 : decode c_X_child 29 = .ok (.iastore, 1) := by decide +kernel
theorem d_X_child_30 : decode c_X_child 30 = .ok (.aload_n 0, 1) := by decide +kernel
theorem d_X_child_31 : decode c_X_child 31 = .ok (.dup, 1) := by decide +kernel
theorem d_X_child_32 : decode c_X_child 32 = .ok (.getfield 13, 3) := by decide +kernel
theorem d_X_child_35 : decode c_X_child 35 = .ok (.iconst 1, 1) := by decide +kernel
theorem d_X_child_36 : decode c_X_child 36 = .ok (.iadd, 1) := by decide +kernel
theorem d_X_child_37 : decode c_X_child 37 = .ok (.putfield 13, 3) := by decide +kernel
theorem d_X_child_40 : decode c_X_child 40 = .ok (.iload_n 2, 1) := by decide +kernel
theorem d_X_child_41 : decode c_X_child 41 = .ok (.ireturn, 1) := by decide +kernel
theorem d_X_need_0 : decode c_X_need 0 = .ok (.iload_n 1, 1) := by decide +kernel
theorem d_X_need_1 : decode c_X_need 1 = .ok (.invokestatic 44, 3) := by decide +kernel
theorem d_X_need_4 : decode c_X_need 4 = .ok (.ifCond .eq 14, 3) := by decide +kernel
theorem d_X_need_7 : decode c_X_need 7 = .ok (.aload_n 0, 1) := by decide +kernel
theorem d_X_need_8 : decode c_X_need 8 = .ok (.getfield 36, 3) := by decide +kernel
theorem d_X_need_11 : decode c_X_need 11 = .ok (.getfield 47, 3) := by decide +kernel
theorem d_X_need_14 : decode c_X_need 14 = .ok (.iconst 4, 1) := by decide +kernel
theorem d_X_need_15 : decode c_X_need 15 = .ok (.if_icmp .lt 5, 3) := by decide +kernel
theorem d_X_need_18 : decode c_X_need 18 = .ok (.iconst (-1), 1) := by decide +kernel
theorem d_X_need_19 : decode c_X_need 19 = .ok (.ireturn, 1) := by decide +kernel
theorem d_X_need_20 : decode c_X_need 20 = .ok (.aload_n 0, 1) := by decide +kernel
theorem d_X_need_21 : decode c_X_need 21 = .ok (.getfield 36, 3) := by decide +kernel
theorem d_X_need_24 : decode c_X_need 24 = .ok (.iload_n 1, 1) := by decide +kernel
theorem d_X_need_25 : decode c_X_need 25 = .ok (.iload_n 2, 1) := by decide +kernel
theorem d_X_need_26 : decode c_X_need 26 = .ok (.invokevirtual 50, 3) := by decide +kernel
theorem d_X_need_29 : decode c_X_need 29 = .ok (.aload_n 0, 1) := by decide +kernel
theorem d_X_need_30 : decode c_X_need 30 = .ok (.getfield 36, 3) := by decide +kernel
theorem d_X_need_33 : decode c_X_need 33 = .ok (.getfield 47, 3) := by decide +kernel
theorem d_X_need_36 : decode c_X_need 36 = .ok (.ireturn, 1) := by decide +kernel
theorem d_X_drop_0 : decode c_X_drop 0 = .ok (.aload_n 0, 1) := by decide +kernel
theorem d_X_drop_1 : decode c_X_drop 1 = .ok (.getfield 36, 3) := by decide +kernel
theorem d_X_drop_4 : decode c_X_drop 4 = .ok (.getfield 47, 3) := by decide +kernel
theorem d_X_drop_7 : decode c_X_drop 7 = .ok (.istore_n 1, 1) := by decide +kernel
theorem d_X_drop_8 : decode c_X_drop 8 = .ok (.aload_n 0, 1) := by decide +kernel
theorem d_X_drop_9 : decode c_X_drop 9 = .ok (.getfield 36, 3) := by decide +kernel
theorem d_X_drop_12 : decode c_X_drop 12 = .ok (.iconst 0, 1) := by decide +kernel
theorem d_X_drop_13 : decode c_X_drop 13 = .ok (.putfield 47, 3) := by decide +kernel
theorem d_X_drop_16 : decode c_X_drop 16 = .ok (.iload_n 1, 1) := by decide +kernel
theorem d_X_drop_17 : decode c_X_drop 17 = .ok (.ireturn, 1) := by decide +kernel
theorem d_X_bindConstant_0 : decode c_X_bindConstant 0 = .ok (.aload_n 0, 1) := by decide +kernel
theorem d_X_bindConstant_1 : decode c_X_bindConstant 1 = .ok (.iload_n 1, 1) := by decide +kernel
theorem d_X_bindConstant_2 : decode c_X_bindConstant 2 = .ok (.iload_n 2, 1) := by decide +kernel
theorem d_X_bindConstant_3 : decode c_X_bindConstant 3 = .ok (.invokevirtual 54, 3) := by decide +kernel
theorem d_X_bindConstant_6 : decode c_X_bindConstant 6 = .ok (.ifCond .ne 5, 3) := by decide +kernel
theorem d_X_bindConstant_9 : decode c_X_bindConstant 9 = .ok (.iconst (-1), 1) := by decide +kernel
theorem d_X_bindConstant_10 : decode c_X_bindConstant 10 = .ok (.ireturn, 1) := by decide +kernel
theorem d_X_bindConstant_11 : decode c_X_bindConstant 11 = .ok (.aload_n 0, 1) := by decide +kernel
theorem d_X_bindConstant_12 : decode c_X_bindConstant 12 = .ok (.getfield 19, 3) := by decide +kernel
theorem d_X_bindConstant_15 : decode c_X_bindConstant 15 = .ok (.iload_n 1, 1) := by decide +kernel
theorem d_X_bindConstant_16 : decode c_X_bindConstant 16 = .ok (.iload_n 2, 1) := by decide +kernel
theorem d_X_bindConstant_17 : decode c_X_bindConstant 17 = .ok (.invokestatic 58, 3) := by decide +kernel
theorem d_X_bindConstant_20 : decode c_X_bindConstant 20 = .ok (.new 17, 3) := by decide +kernel
theorem d_X_bindConstant_23 : decode c_X_bindConstant 23 = .ok (.dup, 1) := by decide +kernel
theorem d_X_bindConstant_24 : decode c_X_bindConstant 24 = .ok (.getstatic 62, 3) := by decide +kernel
theorem d_X_bindConstant_27 : decode c_X_bindConstant 27 = .ok (.iload_n 1, 1) := by decide +kernel
theorem d_X_bindConstant_28 : decode c_X_bindConstant 28 = .ok (.iload_n 2, 1) := by decide +kernel
theorem d_X_bindConstant_29 : decode c_X_bindConstant 29 = .ok (.iload_n 3, 1) := by decide +kernel
theorem d_X_bindConstant_30 : decode c_X_bindConstant 30 = .ok (.iconst 0, 1) := by decide +kernel
theorem d_X_bindConstant_31 : decode c_X_bindConstant 31 = .ok (.new 33, 3) := by decide +kernel
theorem d_X_bindConstant_34 : decode c_X_bindConstant 34 = .ok (.dup, 1) := by decide +kernel
theorem d_X_bindConstant_35 : decode c_X_bindConstant 35 = .ok (.invokespecial 35, 3) := by decide +kernel
theorem d_X_bindConstant_38 : decode c_X_bindConstant 38 = .ok (.invokespecial 68, 3) := by decide +kernel
theorem d_X_bindConstant_41 : decode c_X_bindConstant 41 = .ok (.aastore, 1) := by decide +kernel
theorem d_X_bindConstant_42 : decode c_X_bindConstant 42 = .ok (.iconst 1, 1) := by decide +kernel
theorem d_X_bindConstant_43 : decode c_X_bindConstant 43 = .ok (.ireturn, 1) := by decide +kernel
theorem d_X_bindLink_0 : decode c_X_bindLink 0 = .ok (.iload_n 3, 1) := by decide +kernel
theorem d_X_bindLink_1 : decode c_X_bindLink 1 = .ok (.invokestatic 44, 3) := by decide +kernel
theorem d_X_bindLink_4 : decode c_X_bindLink 4 = .ok (.ifCond .eq 12, 3) := by decide +kernel
theorem d_X_bindLink_7 : decode c_X_bindLink 7 = .ok (.aload_n 0, 1) := by decide +kernel
theorem d_X_bindLink_8 : decode c_X_bindLink 8 = .ok (.iload_n 1, 1) := by decide +kernel
theorem d_X_bindLink_9 : decode c_X_bindLink 9 = .ok (.iload_n 2, 1) := by decide +kernel
theorem d_X_bindLink_10 : decode c_X_bindLink 10 = .ok (.invokevirtual 54, 3) := by decide +kernel
theorem d_X_bindLink_13 : decode c_X_bindLink 13 = .ok (.ifCond .ne 5, 3) := by decide +kernel
theorem d_X_bindLink_16 : decode c_X_bindLink 16 = .ok (.iconst (-1), 1) := by decide +kernel
theorem d_X_bindLink_17 : decode c_X_bindLink 17 = .ok (.ireturn, 1) := by decide +kernel
theorem d_X_bindLink_18 : decode c_X_bindLink 18 = .ok (.new 33, 3) := by decide +kernel
theorem d_X_bindLink_21 : decode c_X_bindLink 21 = .ok (.dup, 1) := by decide +kernel
theorem d_X_bindLink_22 : decode c_X_bindLink 22 = .ok (.invokespecial 35, 3) := by decide +kernel
theorem d_X_bindLink_25 : decode c_X_bindLink 25 = .ok (.astore 4, 2) := by decide +kernel
theorem d_X_bindLink_27 : decode c_X_bindLink 27 = .ok (.aload 4, 2) := by decide +kernel
theorem d_X_bindLink_29 : decode c_X_bindLink 29 = .ok (.iload_n 3, 1) := by decide +kernel
theorem d_X_bindLink_30 : decode c_X_bindLink 30 = .ok (.iconst 0, 1) := by decide +kernel
theorem d_X_bindLink_31 : decode c_X_bindLink 31 = .ok (.invokevirtual 50, 3) := by decide +kernel
theorem d_X_bindLink_34 : decode c_X_bindLink 34 = .ok (.aload_n 0, 1) := by decide +kernel
theorem d_X_bindLink_35 : decode c_X_bindLink 35 = .ok (.getfield 19, 3) := by decide +kernel
theorem d_X_bindLink_38 : decode c_X_bindLink 38 = .ok (.iload_n 1, 1) := by decide +kernel
theorem d_X_bindLink_39 : decode c_X_bindLink 39 = .ok (.iload_n 2, 1) := by decide +kernel
theorem d_X_bindLink_40 : decode c_X_bindLink 40 = .ok (.invokestatic 58, 3) := by decide +kernel
theorem d_X_bindLink_43 : decode c_X_bindLink 43 = .ok (.new 17, 3) := by decide +kernel
theorem d_X_bindLink_46 : decode c_X_bindLink 46 = .ok (.dup, 1) := by decide +kernel
theorem d_X_bindLink_47 : decode c_X_bindLink 47 = .ok (.getstatic 71, 3) := by decide +kernel
theorem d_X_bindLink_50 : decode c_X_bindLink 50 = .ok (.iload_n 1, 1) := by decide +kernel
theorem d_X_bindLink_51 : decode c_X_bindLink 51 = .ok (.iload_n 2, 1) := by decide +kernel
theorem d_X_bindLink_52 : decode c_X_bindLink 52 = .ok (.iconst 0, 1) := by decide +kernel
theorem d_X_bindLink_53 : decode c_X_bindLink 53 = .ok (.iconst 0, 1) := by decide +kernel
theorem d_X_bindLink_54 : decode c_X_bindLink 54 = .ok (.aload 4, 2) := by decide +kernel
theorem d_X_bindLink_56 : decode c_X_bindLink 56 = .ok (.invokespecial 68, 3) := by decide +kernel
theorem d_X_bindLink_59 : decode c_X_bindLink 59 = .ok (.aastore, 1) := by decide +kernel
theorem d_X_bindLink_60 : decode c_X_bindLink 60 = .ok (.iconst 1, 1) := by decide +kernel
theorem d_X_bindLink_61 : decode c_X_bindLink 61 = .ok (.ireturn, 1) := by decide +kernel
theorem d_X_bindClass_0 : decode c_X_bindClass 0 = .ok (.iload_n 3, 1) := by decide +kernel
theorem d_X_bindClass_1 : decode c_X_bindClass 1 = .ok (.ifCond .lt 17, 3) := by decide +kernel
theorem d_X_bindClass_4 : decode c_X_bindClass 4 = .ok (.iload_n 3, 1) := by decide +kernel
theorem d_X_bindClass_5 : decode c_X_bindClass 5 = .ok (.iconst 2, 1) := by decide +kernel
theorem d_X_bindClass_6 : decode c_X_bindClass 6 = .ok (.if_icmp .gt 12, 3) := by decide +kernel
theorem d_X_bindClass_9 : decode c_X_bindClass 9 = .ok (.aload_n 0, 1) := by decide +kernel
theorem d_X_bindClass_10 : decode c_X_bindClass 10 = .ok (.iload_n 1, 1) := by decide +kernel
theorem d_X_bindClass_11 : decode c_X_bindClass 11 = .ok (.iload_n 2, 1) := by decide +kernel
theorem d_X_bindClass_12 : decode c_X_bindClass 12 = .ok (.invokevirtual 54, 3) := by decide +kernel
theorem d_X_bindClass_15 : decode c_X_bindClass 15 = .ok (.ifCond .ne 5, 3) := by decide +kernel
theorem d_X_bindClass_18 : decode c_X_bindClass 18 = .ok (.iconst (-1), 1) := by decide +kernel
theorem d_X_bindClass_19 : decode c_X_bindClass 19 = .ok (.ireturn, 1) := by decide +kernel
theorem d_X_bindClass_20 : decode c_X_bindClass 20 = .ok (.aload_n 0, 1) := by decide +kernel
theorem d_X_bindClass_21 : decode c_X_bindClass 21 = .ok (.getfield 36, 3) := by decide +kernel
theorem d_X_bindClass_24 : decode c_X_bindClass 24 = .ok (.astore 4, 2) := by decide +kernel
theorem d_X_bindClass_26 : decode c_X_bindClass 26 = .ok (.aload_n 0, 1) := by decide +kernel
theorem d_X_bindClass_27 : decode c_X_bindClass 27 = .ok (.getfield 19, 3) := by decide +kernel
theorem d_X_bindClass_30 : decode c_X_bindClass 30 = .ok (.iload_n 1, 1) := by decide +kernel
theorem d_X_bindClass_31 : decode c_X_bindClass 31 = .ok (.iload_n 2, 1) := by decide +kernel
theorem d_X_bindClass_32 : decode c_X_bindClass 32 = .ok (.invokestatic 58, 3) := by decide +kernel
theorem d_X_bindClass_35 : decode c_X_bindClass 35 = .ok (.new 17, 3) := by decide +kernel
theorem d_X_bindClass_38 : decode c_X_bindClass 38 = .ok (.dup, 1) := by decide +kernel
theorem d_X_bindClass_39 : decode c_X_bindClass 39 = .ok (.getstatic 74, 3) := by decide +kernel
theorem d_X_bindClass_42 : decode c_X_bindClass 42 = .ok (.iload_n 1, 1) := by decide +kernel
theorem d_X_bindClass_43 : decode c_X_bindClass 43 = .ok (.iload_n 2, 1) := by decide +kernel
theorem d_X_bindClass_44 : decode c_X_bindClass 44 = .ok (.iconst 0, 1) := by decide +kernel
theorem d_X_bindClass_45 : decode c_X_bindClass 45 = .ok (.iload_n 3, 1) := by decide +kernel
theorem d_X_bindClass_46 : decode c_X_bindClass 46 = .ok (.aload 4, 2) := by decide +kernel
theorem d_X_bindClass_48 : decode c_X_bindClass 48 = .ok (.invokespecial 68, 3) := by decide +kernel
theorem d_X_bindClass_51 : decode c_X_bindClass 51 = .ok (.aastore, 1) := by decide +kernel
theorem d_X_bindClass_52 : decode c_X_bindClass 52 = .ok (.aload_n 0, 1) := by decide +kernel
theorem d_X_bindClass_53 : decode c_X_bindClass 53 = .ok (.new 33, 3) := by decide +kernel
theorem d_X_bindClass_56 : decode c_X_bindClass 56 = .ok (.dup, 1) := by decide +kernel
theorem d_X_bindClass_57 : decode c_X_bindClass 57 = .ok (.invokespecial 35, 3) := by decide +kernel
theorem d_X_bindClass_60 : decode c_X_bindClass 60 = .ok (.putfield 36, 3) := by decide +kernel
theorem d_X_bindClass_63 : decode c_X_bindClass 63 = .ok (.aload 4, 2) := by decide +kernel
theorem d_X_bindClass_65 : decode c_X_bindClass 65 = .ok (.getfield 47, 3) := by decide +kernel
theorem d_X_bindClass_68 : decode c_X_bindClass 68 = .ok (.ireturn, 1) := by decide +kernel
theorem d_X_unbind_0 : decode c_X_unbind 0 = .ok (.aload_n 0, 1) := by decide +kernel
theorem d_X_unbind_1 : decode c_X_unbind 1 = .ok (.iload_n 1, 1) := by decide +kernel
theorem d_X_unbind_2 : decode c_X_unbind 2 = .ok (.iload_n 2, 1) := by decide +kernel
theorem d_X_unbind_3 : decode c_X_unbind 3 = .ok (.invokevirtual 77, 3) := by decide +kernel
theorem d_X_unbind_6 : decode c_X_unbind 6 = .ok (.ifCond .eq 16, 3) := by decide +kernel
theorem d_X_unbind_9 : decode c_X_unbind 9 = .ok (.aload_n 0, 1) := by decide +kernel
theorem d_X_unbind_10 : decode c_X_unbind 10 = .ok (.getfield 19, 3) := by decide +kernel
theorem d_X_unbind_13 : decode c_X_unbind 13 = .ok (.iload_n 1, 1) := by decide +kernel
theorem d_X_unbind_14 : decode c_X_unbind 14 = .ok (.iload_n 2, 1) := by decide +kernel
theorem d_X_unbind_15 : decode c_X_unbind 15 = .ok (.invokestatic 58, 3) := by decide +kernel
theorem d_X_unbind_18 : decode c_X_unbind 18 = .ok (.aaload, 1) := by decide +kernel
theorem d_X_unbind_19 : decode c_X_unbind 19 = .ok (.ifnonnull 5, 3) := by decide +kernel
theorem d_X_unbind_22 : decode c_X_unbind 22 = .ok (.iconst (-1), 1) := by decide +kernel
theorem d_X_unbind_23 : decode c_X_unbind 23 = .ok (.ireturn, 1) := by decide +kernel
theorem d_X_unbind_24 : decode c_X_unbind 24 = .ok (.aload_n 0, 1) := by decide +kernel
theorem d_X_unbind_25 : decode c_X_unbind 25 = .ok (.getfield 19, 3) := by decide +kernel
theorem d_X_unbind_28 : decode c_X_unbind 28 = .ok (.iload_n 1, 1) := by decide +kernel
theorem d_X_unbind_29 : decode c_X_unbind 29 = .ok (.iload_n 2, 1) := by decide +kernel
theorem d_X_unbind_30 : decode c_X_unbind 30 = .ok (.invokestatic 58, 3) := by decide +kernel
theorem d_X_unbind_33 : decode c_X_unbind 33 = .ok (.aconst_null, 1) := by decide +kernel
theorem d_X_unbind_34 : decode c_X_unbind 34 = .ok (.aastore, 1) := by decide +kernel
theorem d_X_unbind_35 : decode c_X_unbind 35 = .ok (.iconst 1, 1) := by decide +kernel
theorem d_X_unbind_36 : decode c_X_unbind 36 = .ok (.ireturn, 1) := by decide +kernel
theorem d_X_open_0 : decode c_X_open 0 = .ok (.aload_n 0, 1) := by decide +kernel
theorem d_X_open_1 : decode c_X_open 1 = .ok (.getfield 80, 3) := by decide +kernel
theorem d_X_open_4 : decode c_X_open 4 = .ok (.ifCond .eq 5, 3) := by decide +kernel
theorem d_X_open_7 : decode c_X_open 7 = .ok (.iconst (-1), 1) := by decide +kernel
theorem d_X_open_8 : decode c_X_open 8 = .ok (.ireturn, 1) := by decide +kernel
theorem d_X_open_9 : decode c_X_open 9 = .ok (.aload_n 0, 1) := by decide +kernel
theorem d_X_open_10 : decode c_X_open 10 = .ok (.iconst 1, 1) := by decide +kernel
theorem d_X_open_11 : decode c_X_open 11 = .ok (.putfield 80, 3) := by decide +kernel
theorem d_X_open_14 : decode c_X_open 14 = .ok (.iconst 1, 1) := by decide +kernel
theorem d_X_open_15 : decode c_X_open 15 = .ok (.ireturn, 1) := by decide +kernel
theorem d_X_close_0 : decode c_X_close 0 = .ok (.aload_n 0, 1) := by decide +kernel
theorem d_X_close_1 : decode c_X_close 1 = .ok (.getfield 80, 3) := by decide +kernel
theorem d_X_close_4 : decode c_X_close 4 = .ok (.ifCond .ne 5, 3) := by decide +kernel
theorem d_X_close_7 : decode c_X_close 7 = .ok (.iconst (-1), 1) := by decide +kernel
theorem d_X_close_8 : decode c_X_close 8 = .ok (.ireturn, 1) := by decide +kernel
theorem d_X_close_9 : decode c_X_close 9 = .ok (.aload_n 0, 1) := by decide +kernel
theorem d_X_close_10 : decode c_X_close 10 = .ok (.iconst 2, 1) := by decide +kernel
theorem d_X_close_11 : decode c_X_close 11 = .ok (.invokevirtual 84, 3) := by decide +kernel
theorem d_X_close_14 : decode c_X_close 14 = .ok (.istore_n 1, 1) := by decide +kernel
theorem d_X_close_15 : decode c_X_close 15 = .ok (.aload_n 0, 1) := by decide +kernel
theorem d_X_close_16 : decode c_X_close 16 = .ok (.getfield 19, 3) := by decide +kernel
theorem d_X_close_19 : decode c_X_close 19 = .ok (.astore_n 2, 1) := by decide +kernel
theorem d_X_close_20 : decode c_X_close 20 = .ok (.aload_n 2, 1) := by decide +kernel
theorem d_X_close_21 : decode c_X_close 21 = .ok (.arraylength, 1) := by decide +kernel
theorem d_X_close_22 : decode c_X_close 22 = .ok (.istore_n 3, 1) := by decide +kernel
theorem d_X_close_23 : decode c_X_close 23 = .ok (.iconst 0, 1) := by decide +kernel
theorem d_X_close_24 : decode c_X_close 24 = .ok (.istore 4, 2) := by decide +kernel
theorem d_X_close_26 : decode c_X_close 26 = .ok (.iload 4, 2) := by decide +kernel
theorem d_X_close_28 : decode c_X_close 28 = .ok (.iload_n 3, 1) := by decide +kernel
theorem d_X_close_29 : decode c_X_close 29 = .ok (.if_icmp .ge 35, 3) := by decide +kernel
theorem d_X_close_32 : decode c_X_close 32 = .ok (.aload_n 2, 1) := by decide +kernel
theorem d_X_close_33 : decode c_X_close 33 = .ok (.iload 4, 2) := by decide +kernel
theorem d_X_close_35 : decode c_X_close 35 = .ok (.aaload, 1) := by decide +kernel
theorem d_X_close_36 : decode c_X_close 36 = .ok (.astore 5, 2) := by decide +kernel
theorem d_X_close_38 : decode c_X_close 38 = .ok (.aload 5, 2) := by decide +kernel
theorem d_X_close_40 : decode c_X_close 40 = .ok (.ifnull 18, 3) := by decide +kernel
theorem d_X_close_43 : decode c_X_close 43 = .ok (.aload 5, 2) := by decide +kernel
theorem d_X_close_45 : decode c_X_close 45 = .ok (.getfield 88, 3) := by decide +kernel
theorem d_X_close_48 : decode c_X_close 48 = .ok (.iconst 2, 1) := by decide +kernel
theorem d_X_close_49 : decode c_X_close 49 = .ok (.if_icmp .ne 9, 3) := by decide +kernel
theorem d_X_close_52 : decode c_X_close 52 = .ok (.aload 5, 2) := by decide +kernel
theorem d_X_close_54 : decode c_X_close 54 = .ok (.iconst (-1), 1) := by decide +kernel
theorem d_X_close_55 : decode c_X_close 55 = .ok (.putfield 91, 3) := by decide +kernel
theorem d_X_close_58 : decode c_X_close 58 = .ok (.iinc 4 1, 3) := by decide +kernel
theorem d_X_close_61 : decode c_X_close 61 = .ok (.goto (-35), 3) := by decide +kernel
theorem d_X_close_64 : decode c_X_close 64 = .ok (.aload_n 0, 1) := by decide +kernel
theorem d_X_close_65 : decode c_X_close 65 = .ok (.iconst 0, 1) := by decide +kernel
theorem d_X_close_66 : decode c_X_close 66 = .ok (.putfield 80, 3) := by decide +kernel
theorem d_X_close_69 : decode c_X_close 69 = .ok (.iload_n 1, 1) := by decide +kernel
theorem d_X_close_70 : decode c_X_close 70 = .ok (.ireturn, 1) := by decide +kernel
theorem d_X_get_0 : decode c_X_get 0 = .ok (.aload_n 0, 1) := by decide +kernel
theorem d_X_get_1 : decode c_X_get 1 = .ok (.iload_n 1, 1) := by decide +kernel
theorem d_X_get_2 : decode c_X_get 2 = .ok (.iload_n 2, 1) := by decide +kernel
theorem d_X_get_3 : decode c_X_get 3 = .ok (.invokevirtual 77, 3) := by decide +kernel
theorem d_X_get_6 : decode c_X_get 6 = .ok (.ifCond .ne 7, 3) := by decide +kernel
theorem d_X_get_9 : decode c_X_get 9 = .ok (.ldc2_w 94, 3) := by decide +kernel
theorem d_X_get_12 : decode c_X_get 12 = .ok (.lreturn, 1) := by decide +kernel
theorem d_X_get_13 : decode c_X_get 13 = .ok (.aload_n 0, 1) := by decide +kernel
theorem d_X_get_14 : decode c_X_get 14 = .ok (.iload_n 1, 1) := by decide +kernel
theorem d_X_get_15 : decode c_X_get 15 = .ok (.iload_n 2, 1) := by decide +kernel
theorem d_X_get_16 : decode c_X_get 16 = .ok (.invokevirtual 96, 3) := by decide +kernel
theorem d_X_get_19 : decode c_X_get 19 = .ok (.lreturn, 1) := by decide +kernel
theorem d_X_ask_0 : decode c_X_ask 0 = .ok (.aload_n 0, 1) := by decide +kernel
theorem d_X_ask_1 : decode c_X_ask 1 = .ok (.iload_n 1, 1) := by decide +kernel
theorem d_X_ask_2 : decode c_X_ask 2 = .ok (.invokevirtual 100, 3) := by decide +kernel
theorem d_X_ask_5 : decode c_X_ask 5 = .ok (.astore_n 3, 1) := by decide +kernel
theorem d_X_ask_6 : decode c_X_ask 6 = .ok (.aload_n 3, 1) := by decide +kernel
theorem d_X_ask_7 : decode c_X_ask 7 = .ok (.ifnull 11, 3) := by decide +kernel
theorem d_X_ask_10 : decode c_X_ask 10 = .ok (.aload_n 3, 1) := by decide +kernel
theorem d_X_ask_11 : decode c_X_ask 11 = .ok (.iload_n 2, 1) := by decide +kernel
theorem d_X_ask_12 : decode c_X_ask 12 = .ok (.invokestatic 104, 3) := by decide +kernel
theorem d_X_ask_15 : decode c_X_ask 15 = .ok (.ifCond .ne 7, 3) := by decide +kernel
theorem d_X_ask_18 : decode c_X_ask 18 = .ok (.ldc2_w 94, 3) := by decide +kernel
theorem d_X_ask_21 : decode c_X_ask 21 = .ok (.lreturn, 1) := by decide +kernel
theorem d_X_ask_22 : decode c_X_ask 22 = .ok (.aload_n 3, 1) := by decide +kernel
theorem d_X_ask_23 : decode c_X_ask 23 = .ok (.getfield 108, 3) := by decide +kernel
theorem d_X_ask_26 : decode c_X_ask 26 = .ok (.getfield 111, 3) := by decide +kernel
theorem d_X_ask_29 : decode c_X_ask 29 = .ok (.iload_n 2, 1) := by decide +kernel
theorem d_X_ask_30 : decode c_X_ask 30 = .ok (.baload, 1) := by decide +kernel
theorem d_X_ask_31 : decode c_X_ask 31 = .ok (.ifCond .eq 21, 3) := by decide +kernel
theorem d_X_ask_34 : decode c_X_ask 34 = .ok (.aload_n 0, 1) := by decide +kernel
theorem d_X_ask_35 : decode c_X_ask 35 = .ok (.aload_n 3, 1) := by decide +kernel
theorem d_X_ask_36 : decode c_X_ask 36 = .ok (.getfield 115, 3) := by decide +kernel
theorem d_X_ask_39 : decode c_X_ask 39 = .ok (.aload_n 3, 1) := by decide +kernel
theorem d_X_ask_40 : decode c_X_ask 40 = .ok (.getfield 108, 3) := by decide +kernel
theorem d_X_ask_43 : decode c_X_ask 43 = .ok (.getfield 118, 3) := by decide +kernel
theorem d_X_ask_46 : decode c_X_ask 46 = .ok (.iload_n 2, 1) := by decide +kernel
theorem d_X_ask_47 : decode c_X_ask 47 = .ok (.iaload, 1) := by decide +kernel
theorem d_X_ask_48 : decode c_X_ask 48 = .ok (.invokevirtual 96, 3) := by decide +kernel
theorem d_X_ask_51 : decode c_X_ask 51 = .ok (.lreturn, 1) := by decide +kernel
theorem d_X_ask_52 : decode c_X_ask 52 = .ok (.aload_n 0, 1) := by decide +kernel
theorem d_X_ask_53 : decode c_X_ask 53 = .ok (.getfield 26, 3) := by decide +kernel
theorem d_X_ask_56 : decode c_X_ask 56 = .ok (.iload_n 1, 1) := by decide +kernel
theorem d_X_ask_57 : decode c_X_ask 57 = .ok (.iconst 4, 1) := by decide +kernel
theorem d_X_ask_58 : decode c_X_ask 58 = .ok (.imul, 1) := by decide +kernel
theorem d_X_ask_59 : decode c_X_ask 59 = .ok (.iload_n 2, 1) := by decide +kernel
theorem d_X_ask_60 : decode c_X_ask 60 = .ok (.iadd, 1) := by decide +kernel
theorem d_X_ask_61 : decode c_X_ask 61 = .ok (.laload, 1) := by decide +kernel
theorem d_X_ask_62 : decode c_X_ask 62 = .ok (.lreturn, 1) := by decide +kernel
theorem d_X_held_0 : decode c_X_held 0 = .ok (.aload_n 0, 1) := by decide +kernel
theorem d_X_held_1 : decode c_X_held 1 = .ok (.iload_n 1, 1) := by decide +kernel
theorem d_X_held_2 : decode c_X_held 2 = .ok (.invokevirtual 100, 3) := by decide +kernel
theorem d_X_held_5 : decode c_X_held 5 = .ok (.astore_n 3, 1) := by decide +kernel
theorem d_X_held_6 : decode c_X_held 6 = .ok (.aload_n 3, 1) := by decide +kernel
theorem d_X_held_7 : decode c_X_held 7 = .ok (.ifnull 11, 3) := by decide +kernel
theorem d_X_held_10 : decode c_X_held 10 = .ok (.aload_n 3, 1) := by decide +kernel
theorem d_X_held_11 : decode c_X_held 11 = .ok (.iload_n 2, 1) := by decide +kernel
theorem d_X_held_12 : decode c_X_held 12 = .ok (.invokestatic 104, 3) := by decide +kernel
theorem d_X_held_15 : decode c_X_held 15 = .ok (.ifCond .ne 7, 3) := by decide +kernel
theorem d_X_held_18 : decode c_X_held 18 = .ok (.ldc2_w 94, 3) := by decide +kernel
theorem d_X_held_21 : decode c_X_held 21 = .ok (.lreturn, 1) := by decide +kernel
theorem d_X_held_22 : decode c_X_held 22 = .ok (.aload_n 0, 1) := by decide +kernel
theorem d_X_held_23 : decode c_X_held 23 = .ok (.getfield 26, 3) := by decide +kernel
theorem d_X_held_26 : decode c_X_held 26 = .ok (.iload_n 1, 1) := by decide +kernel
theorem d_X_held_27 : decode c_X_held 27 = .ok (.iconst 4, 1) := by decide +kernel
theorem d_X_held_28 : decode c_X_held 28 = .ok (.imul, 1) := by decide +kernel
theorem d_X_held_29 : decode c_X_held 29 = .ok (.iload_n 2, 1) := by decide +kernel
theorem d_X_held_30 : decode c_X_held 30 = .ok (.iadd, 1) := by decide +kernel
theorem d_X_held_31 : decode c_X_held 31 = .ok (.laload, 1) := by decide +kernel
theorem d_X_held_32 : decode c_X_held 32 = .ok (.lreturn, 1) := by decide +kernel
theorem d_X_about_0 : decode c_X_about 0 = .ok (.aload_n 0, 1) := by decide +kernel
theorem d_X_about_1 : decode c_X_about 1 = .ok (.iload_n 1, 1) := by decide +kernel
theorem d_X_about_2 : decode c_X_about 2 = .ok (.invokevirtual 100, 3) := by decide +kernel
theorem d_X_about_5 : decode c_X_about 5 = .ok (.astore_n 3, 1) := by decide +kernel
theorem d_X_about_6 : decode c_X_about 6 = .ok (.aload_n 3, 1) := by decide +kernel
theorem d_X_about_7 : decode c_X_about 7 = .ok (.ifnonnull 5, 3) := by decide +kernel
theorem d_X_about_10 : decode c_X_about 10 = .ok (.iconst (-1), 1) := by decide +kernel
theorem d_X_about_11 : decode c_X_about 11 = .ok (.ireturn, 1) := by decide +kernel
theorem d_X_about_12 : decode c_X_about 12 = .ok (.iload_n 2, 1) := by decide +kernel
theorem d_X_about_13 : decode c_X_about 13 = .ok (.tableswitch 54 0 3 #[31, 36, 41, 49], 31) := by decide +kernel
theorem d_X_about_44 : decode c_X_about 44 = .ok (.aload_n 3, 1) := by decide +kernel
theorem d_X_about_45 : decode c_X_about 45 = .ok (.getfield 121, 3) := by decide +kernel
theorem d_X_about_48 : decode c_X_about 48 = .ok (.ireturn, 1) := by decide +kernel
theorem d_X_about_49 : decode c_X_about 49 = .ok (.aload_n 3, 1) := by decide +kernel
theorem d_X_about_50 : decode c_X_about 50 = .ok (.getfield 115, 3) := by decide +kernel
theorem d_X_about_53 : decode c_X_about 53 = .ok (.ireturn, 1) := by decide +kernel
theorem d_X_about_54 : decode c_X_about 54 = .ok (.aload_n 3, 1) := by decide +kernel
theorem d_X_about_55 : decode c_X_about 55 = .ok (.getfield 108, 3) := by decide +kernel
theorem d_X_about_58 : decode c_X_about 58 = .ok (.getfield 47, 3) := by decide +kernel
theorem d_X_about_61 : decode c_X_about 61 = .ok (.ireturn, 1) := by decide +kernel
theorem d_X_about_62 : decode c_X_about 62 = .ok (.aload_n 3, 1) := by decide +kernel
theorem d_X_about_63 : decode c_X_about 63 = .ok (.getfield 88, 3) := by decide +kernel
theorem d_X_about_66 : decode c_X_about 66 = .ok (.ireturn, 1) := by decide +kernel
theorem d_X_about_67 : decode c_X_about 67 = .ok (.iconst (-1), 1) := by decide +kernel
theorem d_X_about_68 : decode c_X_about 68 = .ok (.ireturn, 1) := by decide +kernel
theorem d_X_broken_0 : decode c_X_broken 0 = .ok (.aload_n 0, 1) := by decide +kernel
theorem d_X_broken_1 : decode c_X_broken 1 = .ok (.iload_n 1, 1) := by decide +kernel
theorem d_X_broken_2 : decode c_X_broken 2 = .ok (.invokevirtual 40, 3) := by decide +kernel
theorem d_X_broken_5 : decode c_X_broken 5 = .ok (.ifCond .ne 5, 3) := by decide +kernel
theorem d_X_broken_8 : decode c_X_broken 8 = .ok (.iconst (-1), 1) := by decide +kernel
theorem d_X_broken_9 : decode c_X_broken 9 = .ok (.ireturn, 1) := by decide +kernel
theorem d_X_broken_10 : decode c_X_broken 10 = .ok (.iconst 0, 1) := by decide +kernel
theorem d_X_broken_11 : decode c_X_broken 11 = .ok (.istore_n 2, 1) := by decide +kernel
theorem d_X_broken_12 : decode c_X_broken 12 = .ok (.iload_n 2, 1) := by decide +kernel
theorem d_X_broken_13 : decode c_X_broken 13 = .ok (.bipush 12, 2) := by decide +kernel
theorem d_X_broken_15 : decode c_X_broken 15 = .ok (.if_icmp .ge 29, 3) := by decide +kernel
theorem d_X_broken_18 : decode c_X_broken 18 = .ok (.aload_n 0, 1) := by decide +kernel
theorem d_X_broken_19 : decode c_X_broken 19 = .ok (.iload_n 1, 1) := by decide +kernel
theorem d_X_broken_20 : decode c_X_broken 20 = .ok (.iload_n 2, 1) := by decide +kernel
theorem d_X_broken_21 : decode c_X_broken 21 = .ok (.invokevirtual 124, 3) := by decide +kernel
theorem d_X_broken_24 : decode c_X_broken 24 = .ok (.ifnull 14, 3) := by decide +kernel
theorem d_X_broken_27 : decode c_X_broken 27 = .ok (.aload_n 0, 1) := by decide +kernel
theorem d_X_broken_28 : decode c_X_broken 28 = .ok (.iload_n 1, 1) := by decide +kernel
theorem d_X_broken_29 : decode c_X_broken 29 = .ok (.iload_n 2, 1) := by decide +kernel
theorem d_X_broken_30 : decode c_X_broken 30 = .ok (.invokevirtual 128, 3) := by decide +kernel
theorem d_X_broken_33 : decode c_X_broken 33 = .ok (.ifCond .eq 5, 3) := by decide +kernel
theorem d_X_broken_36 : decode c_X_broken 36 = .ok (.iload_n 2, 1) := by decide +kernel
theorem d_X_broken_37 : decode c_X_broken 37 = .ok (.ireturn, 1) := by decide +kernel
theorem d_X_broken_38 : decode c_X_broken 38 = .ok (.iinc 2 1, 3) := by decide +kernel
theorem d_X_broken_41 : decode c_X_broken 41 = .ok (.goto (-29), 3) := by decide +kernel
theorem d_X_broken_44 : decode c_X_broken 44 = .ok (.bipush 12, 2) := by decide +kernel
theorem d_X_broken_46 : decode c_X_broken 46 = .ok (.ireturn, 1) := by decide +kernel
theorem d_X_reach_0 : decode c_X_reach 0 = .ok (.aload_n 0, 1) := by decide +kernel
theorem d_X_reach_1 : decode c_X_reach 1 = .ok (.iload_n 1, 1) := by decide +kernel
theorem d_X_reach_2 : decode c_X_reach 2 = .ok (.iload_n 2, 1) := by decide +kernel
theorem d_X_reach_3 : decode c_X_reach 3 = .ok (.invokevirtual 77, 3) := by decide +kernel
theorem d_X_reach_6 : decode c_X_reach 6 = .ok (.ifCond .ne 5, 3) := by decide +kernel
theorem d_X_reach_9 : decode c_X_reach 9 = .ok (.iconst (-1), 1) := by decide +kernel
theorem d_X_reach_10 : decode c_X_reach 10 = .ok (.ireturn, 1) := by decide +kernel
theorem d_X_reach_11 : decode c_X_reach 11 = .ok (.lconst 1, 1) := by decide +kernel
theorem d_X_reach_12 : decode c_X_reach 12 = .ok (.iload_n 1, 1) := by decide +kernel
theorem d_X_reach_13 : decode c_X_reach 13 = .ok (.iload_n 2, 1) := by decide +kernel
theorem d_X_reach_14 : decode c_X_reach 14 = .ok (.invokestatic 58, 3) := by decide +kernel
theorem d_X_reach_17 : decode c_X_reach 17 = .ok (.lshl, 1) := by decide +kernel
theorem d_X_reach_18 : decode c_X_reach 18 = .ok (.lstore_n 3, 1) := by decide +kernel
theorem d_X_reach_19 : decode c_X_reach 19 = .ok (.lload_n 3, 1) := by decide +kernel
theorem d_X_reach_20 : decode c_X_reach 20 = .ok (.lstore 5, 2) := by decide +kernel
theorem d_X_reach_22 : decode c_X_reach 22 = .ok (.iconst 0, 1) := by decide +kernel
theorem d_X_reach_23 : decode c_X_reach 23 = .ok (.istore 7, 2) := by decide +kernel
theorem d_X_reach_25 : decode c_X_reach 25 = .ok (.iload 7, 2) := by decide +kernel
theorem d_X_reach_27 : decode c_X_reach 27 = .ok (.bipush 36, 2) := by decide +kernel
theorem d_X_reach_29 : decode c_X_reach 29 = .ok (.if_icmp .ge 62, 3) := by decide +kernel
theorem d_X_reach_32 : decode c_X_reach 32 = .ok (.lload 5, 2) := by decide +kernel
theorem d_X_reach_34 : decode c_X_reach 34 = .ok (.lconst 0, 1) := by decide +kernel
theorem d_X_reach_35 : decode c_X_reach 35 = .ok (.lcmp, 1) := by decide +kernel
theorem d_X_reach_36 : decode c_X_reach 36 = .ok (.ifCond .eq 55, 3) := by decide +kernel
theorem d_X_reach_39 : decode c_X_reach 39 = .ok (.lload 5, 2) := by decide +kernel
theorem d_X_reach_41 : decode c_X_reach 41 = .ok (.invokestatic 131, 3) := by decide +kernel
theorem d_X_reach_44 : decode c_X_reach 44 = .ok (.istore 8, 2) := by decide +kernel
theorem d_X_reach_46 : decode c_X_reach 46 = .ok (.aload_n 0, 1) := by decide +kernel
theorem d_X_reach_47 : decode c_X_reach 47 = .ok (.iload 8, 2) := by decide +kernel
theorem d_X_reach_49 : decode c_X_reach 49 = .ok (.bipush 12, 2) := by decide +kernel
theorem d_X_reach_51 : decode c_X_reach 51 = .ok (.idiv, 1) := by decide +kernel
theorem d_X_reach_52 : decode c_X_reach 52 = .ok (.iload 8, 2) := by decide +kernel
theorem d_X_reach_54 : decode c_X_reach 54 = .ok (.bipush 12, 2) := by decide +kernel
theorem d_X_reach_56 : decode c_X_reach 56 = .ok (.irem, 1) := by decide +kernel
theorem d_X_reach_57 : decode c_X_reach 57 = .ok (.invokevirtual 137, 3) := by decide +kernel
theorem d_X_reach_60 : decode c_X_reach 60 = .ok (.lload_n 3, 1) := by decide +kernel
theorem d_X_reach_61 : decode c_X_reach 61 = .ok (.ldc2_w 94, 3) := by decide +kernel
theorem d_X_reach_64 : decode c_X_reach 64 = .ok (.lxor, 1) := by decide +kernel
theorem d_X_reach_65 : decode c_X_reach 65 = .ok (.land, 1) := by decide +kernel
theorem d_X_reach_66 : decode c_X_reach 66 = .ok (.lstore 9, 2) := by decide +kernel
theorem d_X_reach_68 : decode c_X_reach 68 = .ok (.lload_n 3, 1) := by decide +kernel
theorem d_X_reach_69 : decode c_X_reach 69 = .ok (.lload 9, 2) := by decide +kernel
theorem d_X_reach_71 : decode c_X_reach 71 = .ok (.lor, 1) := by decide +kernel
theorem d_X_reach_72 : decode c_X_reach 72 = .ok (.lstore_n 3, 1) := by decide +kernel
theorem d_X_reach_73 : decode c_X_reach 73 = .ok (.lload 5, 2) := by decide +kernel
theorem d_X_reach_75 : decode c_X_reach 75 = .ok (.lload 5, 2) := by decide +kernel
theorem d_X_reach_77 : decode c_X_reach 77 = .ok (.lconst 1, 1) := by decide +kernel
theorem d_X_reach_78 : decode c_X_reach 78 = .ok (.lsub, 1) := by decide +kernel
theorem d_X_reach_79 : decode c_X_reach 79 = .ok (.land, 1) := by decide +kernel
theorem d_X_reach_80 : decode c_X_reach 80 = .ok (.lload 9, 2) := by decide +kernel
theorem d_X_reach_82 : decode c_X_reach 82 = .ok (.lor, 1) := by decide +kernel
theorem d_X_reach_83 : decode c_X_reach 83 = .ok (.lstore 5, 2) := by decide +kernel
theorem d_X_reach_85 : decode c_X_reach 85 = .ok (.iinc 7 1, 3) := by decide +kernel
theorem d_X_reach_88 : decode c_X_reach 88 = .ok (.goto (-63), 3) := by decide +kernel
theorem d_X_reach_91 : decode c_X_reach 91 = .ok (.lload_n 3, 1) := by decide +kernel
theorem d_X_reach_92 : decode c_X_reach 92 = .ok (.invokestatic 140, 3) := by decide +kernel
theorem d_X_reach_95 : decode c_X_reach 95 = .ok (.ireturn, 1) := by decide +kernel
theorem d_X_home_0 : decode c_X_home 0 = .ok (.aload_n 0, 1) := by decide +kernel
theorem d_X_home_1 : decode c_X_home 1 = .ok (.iload_n 1, 1) := by decide +kernel
theorem d_X_home_2 : decode c_X_home 2 = .ok (.iload_n 2, 1) := by decide +kernel
theorem d_X_home_3 : decode c_X_home 3 = .ok (.invokevirtual 77, 3) := by decide +kernel
theorem d_X_home_6 : decode c_X_home 6 = .ok (.ifCond .ne 5, 3) := by decide +kernel
theorem d_X_home_9 : decode c_X_home 9 = .ok (.iconst (-1), 1) := by decide +kernel
theorem d_X_home_10 : decode c_X_home 10 = .ok (.ireturn, 1) := by decide +kernel
theorem d_X_home_11 : decode c_X_home 11 = .ok (.aload_n 0, 1) := by decide +kernel
theorem d_X_home_12 : decode c_X_home 12 = .ok (.iload_n 1, 1) := by decide +kernel
theorem d_X_home_13 : decode c_X_home 13 = .ok (.iload_n 2, 1) := by decide +kernel
theorem d_X_home_14 : decode c_X_home 14 = .ok (.invokevirtual 124, 3) := by decide +kernel
theorem d_X_home_17 : decode c_X_home 17 = .ok (.astore_n 3, 1) := by decide +kernel
theorem d_X_home_18 : decode c_X_home 18 = .ok (.aload_n 3, 1) := by decide +kernel
theorem d_X_home_19 : decode c_X_home 19 = .ok (.ifnonnull 7, 3) := by decide +kernel
theorem d_X_home_22 : decode c_X_home 22 = .ok (.iconst 3, 1) := by decide +kernel
theorem d_X_home_23 : decode c_X_home 23 = .ok (.goto 7, 3) := by decide +kernel
theorem d_X_home_26 : decode c_X_home 26 = .ok (.aload_n 3, 1) := by decide +kernel
theorem d_X_home_27 : decode c_X_home 27 = .ok (.getfield 115, 3) := by decide +kernel
theorem d_X_home_30 : decode c_X_home 30 = .ok (.ireturn, 1) := by decide +kernel
theorem d_X_count_0 : decode c_X_count 0 = .ok (.iload_n 1, 1) := by decide +kernel
theorem d_X_count_1 : decode c_X_count 1 = .ok (.tableswitch 79 0 5 #[39, 44, 49, 54, 60, 66], 39) := by decide +kernel
theorem d_X_count_40 : decode c_X_count 40 = .ok (.aload_n 0, 1) := by decide +kernel
theorem d_X_count_41 : decode c_X_count 41 = .ok (.getfield 13, 3) := by decide +kernel
theorem d_X_count_44 : decode c_X_count 44 = .ok (.ireturn, 1) := by decide +kernel
theorem d_X_count_45 : decode c_X_count 45 = .ok (.aload_n 0, 1) := by decide +kernel
theorem d_X_count_46 : decode c_X_count 46 = .ok (.getfield 143, 3) := by decide +kernel
theorem d_X_count_49 : decode c_X_count 49 = .ok (.ireturn, 1) := by decide +kernel
theorem d_X_count_50 : decode c_X_count 50 = .ok (.aload_n 0, 1) := by decide +kernel
theorem d_X_count_51 : decode c_X_count 51 = .ok (.invokevirtual 146, 3) := by decide +kernel
theorem d_X_count_54 : decode c_X_count 54 = .ok (.ireturn, 1) := by decide +kernel
theorem d_X_count_55 : decode c_X_count 55 = .ok (.aload_n 0, 1) := by decide +kernel
theorem d_X_count_56 : decode c_X_count 56 = .ok (.iconst 1, 1) := by decide +kernel
theorem d_X_count_57 : decode c_X_count 57 = .ok (.invokevirtual 84, 3) := by decide +kernel
theorem d_X_count_60 : decode c_X_count 60 = .ok (.ireturn, 1) := by decide +kernel
theorem d_X_count_61 : decode c_X_count 61 = .ok (.aload_n 0, 1) := by decide +kernel
theorem d_X_count_62 : decode c_X_count 62 = .ok (.iconst 2, 1) := by decide +kernel
theorem d_X_count_63 : decode c_X_count 63 = .ok (.invokevirtual 84, 3) := by decide +kernel
theorem d_X_count_66 : decode c_X_count 66 = .ok (.ireturn, 1) := by decide +kernel
theorem d_X_count_67 : decode c_X_count 67 = .ok (.aload_n 0, 1) := by decide +kernel
theorem d_X_count_68 : decode c_X_count 68 = .ok (.getfield 80, 3) := by decide +kernel
theorem d_X_count_71 : decode c_X_count 71 = .ok (.ifCond .eq 7, 3) := by decide +kernel
theorem d_X_count_74 : decode c_X_count 74 = .ok (.iconst 1, 1) := by decide +kernel
theorem d_X_count_75 : decode c_X_count 75 = .ok (.goto 4, 3) := by decide +kernel
theorem d_X_count_78 : decode c_X_count 78 = .ok (.iconst 0, 1) := by decide +kernel
theorem d_X_count_79 : decode c_X_count 79 = .ok (.ireturn, 1) := by decide +kernel
theorem d_X_count_80 : decode c_X_count 80 = .ok (.iconst (-1), 1) := by decide +kernel
theorem d_X_count_81 : decode c_X_count 81 = .ok (.ireturn, 1) := by decide +kernel
theorem d_X_isInjector_0 : decode c_X_isInjector 0 = .ok (.iload_n 1, 1) := by decide +kernel
theorem d_X_isInjector_1 : decode c_X_isInjector 1 = .ok (.ifCond .lt 15, 3) := by decide +kernel
theorem d_X_isInjector_4 : decode c_X_isInjector 4 = .ok (.iload_n 1, 1) := by decide +kernel
theorem d_X_isInjector_5 : decode c_X_isInjector 5 = .ok (.aload_n 0, 1) := by decide +kernel
theorem d_X_isInjector_6 : decode c_X_isInjector 6 = .ok (.getfield 13, 3) := by decide +kernel
theorem d_X_isInjector_9 : decode c_X_isInjector 9 = .ok (.if_icmp .ge 7, 3) := by decide +kernel
theorem d_X_isInjector_12 : decode c_X_isInjector 12 = .ok (.iconst 1, 1) := by decide +kernel
theorem d_X_isInjector_13 : decode c_X_isInjector 13 = .ok (.goto 4, 3) := by decide +kernel
theorem d_X_isInjector_16 : decode c_X_isInjector 16 = .ok (.iconst 0, 1) := by decide +kernel
theorem d_X_isInjector_17 : decode c_X_isInjector 17 = .ok (.ireturn, 1) := by decide +kernel
theorem d_X_isKey_0 : decode c_X_isKey 0 = .ok (.iload_n 0, 1) := by decide +kernel
theorem d_X_isKey_1 : decode c_X_isKey 1 = .ok (.ifCond .lt 13, 3) := by decide +kernel
theorem d_X_isKey_4 : decode c_X_isKey 4 = .ok (.iload_n 0, 1) := by decide +kernel
theorem d_X_isKey_5 : decode c_X_isKey 5 = .ok (.bipush 12, 2) := by decide +kernel
theorem d_X_isKey_7 : decode c_X_isKey 7 = .ok (.if_icmp .ge 7, 3) := by decide +kernel
theorem d_X_isKey_10 : decode c_X_isKey 10 = .ok (.iconst 1, 1) := by decide +kernel
theorem d_X_isKey_11 : decode c_X_isKey 11 = .ok (.goto 4, 3) := by decide +kernel
theorem d_X_isKey_14 : decode c_X_isKey 14 = .ok (.iconst 0, 1) := by decide +kernel
theorem d_X_isKey_15 : decode c_X_isKey 15 = .ok (.ireturn, 1) := by decide +kernel
theorem d_X_isPair_0 : decode c_X_isPair 0 = .ok (.aload_n 0, 1) := by decide +kernel
theorem d_X_isPair_1 : decode c_X_isPair 1 = .ok (.iload_n 1, 1) := by decide +kernel
theorem d_X_isPair_2 : decode c_X_isPair 2 = .ok (.invokevirtual 40, 3) := by decide +kernel
theorem d_X_isPair_5 : decode c_X_isPair 5 = .ok (.ifCond .eq 14, 3) := by decide +kernel
theorem d_X_isPair_8 : decode c_X_isPair 8 = .ok (.iload_n 2, 1) := by decide +kernel
theorem d_X_isPair_9 : decode c_X_isPair 9 = .ok (.invokestatic 44, 3) := by decide +kernel
theorem d_X_isPair_12 : decode c_X_isPair 12 = .ok (.ifCond .eq 7, 3) := by decide +kernel
theorem d_X_isPair_15 : decode c_X_isPair 15 = .ok (.iconst 1, 1) := by decide +kernel
theorem d_X_isPair_16 : decode c_X_isPair 16 = .ok (.goto 4, 3) := by decide +kernel
theorem d_X_isPair_19 : decode c_X_isPair 19 = .ok (.iconst 0, 1) := by decide +kernel
theorem d_X_isPair_20 : decode c_X_isPair 20 = .ok (.ireturn, 1) := by decide +kernel
theorem d_X_isUnbound_0 : decode c_X_isUnbound 0 = .ok (.aload_n 0, 1) := by decide +kernel
theorem d_X_isUnbound_1 : decode c_X_isUnbound 1 = .ok (.iload_n 1, 1) := by decide +kernel
theorem d_X_isUnbound_2 : decode c_X_isUnbound 2 = .ok (.iload_n 2, 1) := by decide +kernel
theorem d_X_isUnbound_3 : decode c_X_isUnbound 3 = .ok (.invokevirtual 77, 3) := by decide +kernel
theorem d_X_isUnbound_6 : decode c_X_isUnbound 6 = .ok (.ifCond .eq 20, 3) := by decide +kernel
theorem d_X_isUnbound_9 : decode c_X_isUnbound 9 = .ok (.aload_n 0, 1) := by decide +kernel
theorem d_X_isUnbound_10 : decode c_X_isUnbound 10 = .ok (.getfield 19, 3) := by decide +kernel
theorem d_X_isUnbound_13 : decode c_X_isUnbound 13 = .ok (.iload_n 1, 1) := by decide +kernel
theorem d_X_isUnbound_14 : decode c_X_isUnbound 14 = .ok (.iload_n 2, 1) := by decide +kernel
theorem d_X_isUnbound_15 : decode c_X_isUnbound 15 = .ok (.invokestatic 58, 3) := by decide +kernel
theorem d_X_isUnbound_18 : decode c_X_isUnbound 18 = .ok (.aaload, 1) := by decide +kernel
theorem d_X_isUnbound_19 : decode c_X_isUnbound 19 = .ok (.ifnonnull 7, 3) := by decide +kernel
theorem d_X_isUnbound_22 : decode c_X_isUnbound 22 = .ok (.iconst 1, 1) := by decide +kernel
theorem d_X_isUnbound_23 : decode c_X_isUnbound 23 = .ok (.goto 4, 3) := by decide +kernel
theorem d_X_isUnbound_26 : decode c_X_isUnbound 26 = .ok (.iconst 0, 1) := by decide +kernel
theorem d_X_isUnbound_27 : decode c_X_isUnbound 27 = .ok (.ireturn, 1) := by decide +kernel
theorem d_X_pairOf_0 : decode c_X_pairOf 0 = .ok (.iload_n 0, 1) := by decide +kernel
theorem d_X_pairOf_1 : decode c_X_pairOf 1 = .ok (.bipush 12, 2) := by decide +kernel
theorem d_X_pairOf_3 : decode c_X_pairOf 3 = .ok (.imul, 1) := by decide +kernel
theorem d_X_pairOf_4 : decode c_X_pairOf 4 = .ok (.iload_n 1, 1) := by decide +kernel
theorem d_X_pairOf_5 : decode c_X_pairOf 5 = .ok (.iadd, 1) := by decide +kernel
theorem d_X_pairOf_6 : decode c_X_pairOf 6 = .ok (.ireturn, 1) := by decide +kernel
theorem d_X_makerOf_0 : decode c_X_makerOf 0 = .ok (.iload_n 1, 1) := by decide +kernel
theorem d_X_makerOf_1 : decode c_X_makerOf 1 = .ok (.ifCond .lt 20, 3) := by decide +kernel
theorem d_X_makerOf_4 : decode c_X_makerOf 4 = .ok (.iload_n 1, 1) := by decide +kernel
theorem d_X_makerOf_5 : decode c_X_makerOf 5 = .ok (.aload_n 0, 1) := by decide +kernel
theorem d_X_makerOf_6 : decode c_X_makerOf 6 = .ok (.getfield 143, 3) := by decide +kernel
theorem d_X_makerOf_9 : decode c_X_makerOf 9 = .ok (.if_icmp .ge 12, 3) := by decide +kernel
theorem d_X_makerOf_12 : decode c_X_makerOf 12 = .ok (.aload_n 0, 1) := by decide +kernel
theorem d_X_makerOf_13 : decode c_X_makerOf 13 = .ok (.getfield 23, 3) := by decide +kernel
theorem d_X_makerOf_16 : decode c_X_makerOf 16 = .ok (.iload_n 1, 1) := by decide +kernel
theorem d_X_makerOf_17 : decode c_X_makerOf 17 = .ok (.aaload, 1) := by decide +kernel
theorem d_X_makerOf_18 : decode c_X_makerOf 18 = .ok (.goto 4, 3) := by decide +kernel
theorem d_X_makerOf_21 : decode c_X_makerOf 21 = .ok (.aconst_null, 1) := by decide +kernel
theorem d_X_makerOf_22 : decode c_X_makerOf 22 = .ok (.areturn, 1) := by decide +kernel
theorem d_X_hasNeed_0 : decode c_X_hasNeed 0 = .ok (.iload_n 1, 1) := by decide +kernel
theorem d_X_hasNeed_1 : decode c_X_hasNeed 1 = .ok (.ifCond .lt 18, 3) := by decide +kernel
theorem d_X_hasNeed_4 : decode c_X_hasNeed 4 = .ok (.iload_n 1, 1) := by decide +kernel
theorem d_X_hasNeed_5 : decode c_X_hasNeed 5 = .ok (.aload_n 0, 1) := by decide +kernel
theorem d_X_hasNeed_6 : decode c_X_hasNeed 6 = .ok (.getfield 108, 3) := by decide +kernel
theorem d_X_hasNeed_9 : decode c_X_hasNeed 9 = .ok (.getfield 47, 3) := by decide +kernel
theorem d_X_hasNeed_12 : decode c_X_hasNeed 12 = .ok (.if_icmp .ge 7, 3) := by decide +kernel
theorem d_X_hasNeed_15 : decode c_X_hasNeed 15 = .ok (.iconst 1, 1) := by decide +kernel
theorem d_X_hasNeed_16 : decode c_X_hasNeed 16 = .ok (.goto 4, 3) := by decide +kernel
theorem d_X_hasNeed_19 : decode c_X_hasNeed 19 = .ok (.iconst 0, 1) := by decide +kernel
theorem d_X_hasNeed_20 : decode c_X_hasNeed 20 = .ok (.ireturn, 1) := by decide +kernel
theorem d_X_seenFrom_0 : decode c_X_seenFrom 0 = .ok (.iload_n 1, 1) := by decide +kernel
theorem d_X_seenFrom_1 : decode c_X_seenFrom 1 = .ok (.istore_n 3, 1) := by decide +kernel
theorem d_X_seenFrom_2 : decode c_X_seenFrom 2 = .ok (.iconst 0, 1) := by decide +kernel
theorem d_X_seenFrom_3 : decode c_X_seenFrom 3 = .ok (.istore 4, 2) := by decide +kernel
theorem d_X_seenFrom_5 : decode c_X_seenFrom 5 = .ok (.iload 4, 2) := by decide +kernel
theorem d_X_seenFrom_7 : decode c_X_seenFrom 7 = .ok (.iconst 3, 1) := by decide +kernel
theorem d_X_seenFrom_8 : decode c_X_seenFrom 8 = .ok (.if_icmp .ge 41, 3) := by decide +kernel
theorem d_X_seenFrom_11 : decode c_X_seenFrom 11 = .ok (.iload_n 3, 1) := by decide +kernel
theorem d_X_seenFrom_12 : decode c_X_seenFrom 12 = .ok (.iconst (-1), 1) := by decide +kernel
theorem d_X_seenFrom_13 : decode c_X_seenFrom 13 = .ok (.if_icmp .eq 36, 3) := by decide +kernel
theorem d_X_seenFrom_16 : decode c_X_seenFrom 16 = .ok (.aload_n 0, 1) := by decide +kernel
theorem d_X_seenFrom_17 : decode c_X_seenFrom 17 = .ok (.getfield 19, 3) := by decide +kernel
theorem d_X_seenFrom_20 : decode c_X_seenFrom 20 = .ok (.iload_n 3, 1) := by decide +kernel
theorem d_X_seenFrom_21 : decode c_X_seenFrom 21 = .ok (.iload_n 2, 1) := by decide +kernel
theorem d_X_seenFrom_22 : decode c_X_seenFrom 22 = .ok (.invokestatic 58, 3) := by decide +kernel
theorem d_X_seenFrom_25 : decode c_X_seenFrom 25 = .ok (.aaload, 1) := by decide +kernel
theorem d_X_seenFrom_26 : decode c_X_seenFrom 26 = .ok (.astore 5, 2) := by decide +kernel
theorem d_X_seenFrom_28 : decode c_X_seenFrom 28 = .ok (.aload 5, 2) := by decide +kernel
theorem d_X_seenFrom_30 : decode c_X_seenFrom 30 = .ok (.ifnull 6, 3) := by decide +kernel
theorem d_X_seenFrom_33 : decode c_X_seenFrom 33 = .ok (.aload 5, 2) := by decide +kernel
theorem d_X_seenFrom_35 : decode c_X_seenFrom 35 = .ok (.areturn, 1) := by decide +kernel
theorem d_X_seenFrom_36 : decode c_X_seenFrom 36 = .ok (.aload_n 0, 1) := by decide +kernel
theorem d_X_seenFrom_37 : decode c_X_seenFrom 37 = .ok (.getfield 9, 3) := by decide +kernel
theorem d_X_seenFrom_40 : decode c_X_seenFrom 40 = .ok (.iload_n 3, 1) := by decide +kernel
theorem d_X_seenFrom_41 : decode c_X_seenFrom 41 = .ok (.iaload, 1) := by decide +kernel
theorem d_X_seenFrom_42 : decode c_X_seenFrom 42 = .ok (.istore_n 3, 1) := by decide +kernel
theorem d_X_seenFrom_43 : decode c_X_seenFrom 43 = .ok (.iinc 4 1, 3) := by decide +kernel
theorem d_X_seenFrom_46 : decode c_X_seenFrom 46 = .ok (.goto (-41), 3) := by decide +kernel
theorem d_X_seenFrom_49 : decode c_X_seenFrom 49 = .ok (.aconst_null, 1) := by decide +kernel
theorem d_X_seenFrom_50 : decode c_X_seenFrom 50 = .ok (.areturn, 1) := by decide +kernel
theorem d_X_obtainFromOutside_0 : decode c_X_obtainFromOutside 0 = .ok (.aload_n 0, 1) := by decide +kernel
theorem d_X_obtainFromOutside_1 : decode c_X_obtainFromOutside 1 = .ok (.getfield 143, 3) := by decide +kernel
theorem d_X_obtainFromOutside_4 : decode c_X_obtainFromOutside 4 = .ok (.istore_n 3, 1) := by decide +kernel
theorem d_X_obtainFromOutside_5 : decode c_X_obtainFromOutside 5 = .ok (.aload_n 0, 1) := by decide +kernel
theorem d_X_obtainFromOutside_6 : decode c_X_obtainFromOutside 6 = .ok (.iload_n 1, 1) := by decide +kernel
theorem d_X_obtainFromOutside_7 : decode c_X_obtainFromOutside 7 = .ok (.iload_n 2, 1) := by decide +kernel
theorem d_X_obtainFromOutside_8 : decode c_X_obtainFromOutside 8 = .ok (.iconst 0, 1) := by decide +kernel
theorem d_X_obtainFromOutside_9 : decode c_X_obtainFromOutside 9 = .ok (.invokevirtual 150, 3) := by decide +kernel
theorem d_X_obtainFromOutside_12 : decode c_X_obtainFromOutside 12 = .ok (.lstore 4, 2) := by decide +kernel
theorem d_X_obtainFromOutside_14 : decode c_X_obtainFromOutside 14 = .ok (.lload 4, 2) := by decide +kernel
theorem d_X_obtainFromOutside_16 : decode c_X_obtainFromOutside 16 = .ok (.invokestatic 154, 3) := by decide +kernel
theorem d_X_obtainFromOutside_19 : decode c_X_obtainFromOutside 19 = .ok (.ifCond .eq 8, 3) := by decide +kernel
theorem d_X_obtainFromOutside_22 : decode c_X_obtainFromOutside 22 = .ok (.aload_n 0, 1) := by decide +kernel
theorem d_X_obtainFromOutside_23 : decode c_X_obtainFromOutside 23 = .ok (.iload_n 3, 1) := by decide +kernel
theorem d_X_obtainFromOutside_24 : decode c_X_obtainFromOutside 24 = .ok (.invokevirtual 158, 3) := by decide +kernel
theorem d_X_obtainFromOutside_27 : decode c_X_obtainFromOutside 27 = .ok (.lload 4, 2) := by decide +kernel
theorem d_X_obtainFromOutside_29 : decode c_X_obtainFromOutside 29 = .ok (.lreturn, 1) := by decide +kernel
theorem d_X_wouldFail_0 : decode c_X_wouldFail 0 = .ok (.aload_n 0, 1) := by decide +kernel
theorem d_X_wouldFail_1 : decode c_X_wouldFail 1 = .ok (.getfield 143, 3) := by decide +kernel
theorem d_X_wouldFail_4 : decode c_X_wouldFail 4 = .ok (.istore_n 3, 1) := by decide +kernel
theorem d_X_wouldFail_5 : decode c_X_wouldFail 5 = .ok (.aload_n 0, 1) := by decide +kernel
theorem d_X_wouldFail_6 : decode c_X_wouldFail 6 = .ok (.iload_n 1, 1) := by decide +kernel
theorem d_X_wouldFail_7 : decode c_X_wouldFail 7 = .ok (.iload_n 2, 1) := by decide +kernel
theorem d_X_wouldFail_8 : decode c_X_wouldFail 8 = .ok (.iconst 0, 1) := by decide +kernel
theorem d_X_wouldFail_9 : decode c_X_wouldFail 9 = .ok (.invokevirtual 150, 3) := by decide +kernel
theorem d_X_wouldFail_12 : decode c_X_wouldFail 12 = .ok (.lstore 4, 2) := by decide +kernel
theorem d_X_wouldFail_14 : decode c_X_wouldFail 14 = .ok (.aload_n 0, 1) := by decide +kernel
theorem d_X_wouldFail_15 : decode c_X_wouldFail 15 = .ok (.iload_n 3, 1) := by decide +kernel
theorem d_X_wouldFail_16 : decode c_X_wouldFail 16 = .ok (.invokevirtual 158, 3) := by decide +kernel
theorem d_X_wouldFail_19 : decode c_X_wouldFail 19 = .ok (.lload 4, 2) := by decide +kernel
theorem d_X_wouldFail_21 : decode c_X_wouldFail 21 = .ok (.invokestatic 154, 3) := by decide +kernel
theorem d_X_wouldFail_24 : decode c_X_wouldFail 24 = .ok (.ireturn, 1) := by decide +kernel
theorem d_X_isError_0 : decode c_X_isError 0 = .ok (.lload_n 0, 1) := by decide +kernel
theorem d_X_isError_1 : decode c_X_isError 1 = .ok (.lconst 0, 1) := by decide +kernel
theorem d_X_isError_2 : decode c_X_isError 2 = .ok (.lcmp, 1) := by decide +kernel
theorem d_X_isError_3 : decode c_X_isError 3 = .ok (.ifCond .ge 7, 3) := by decide +kernel
theorem d_X_isError_6 : decode c_X_isError 6 = .ok (.iconst 1, 1) := by decide +kernel
theorem d_X_isError_7 : decode c_X_isError 7 = .ok (.goto 4, 3) := by decide +kernel
theorem d_X_isError_10 : decode c_X_isError 10 = .ok (.iconst 0, 1) := by decide +kernel
theorem d_X_isError_11 : decode c_X_isError 11 = .ok (.ireturn, 1) := by decide +kernel
theorem d_X_unmakeFrom_0 : decode c_X_unmakeFrom 0 = .ok (.aload_n 0, 1) := by decide +kernel
theorem d_X_unmakeFrom_1 : decode c_X_unmakeFrom 1 = .ok (.getfield 19, 3) := by decide +kernel
theorem d_X_unmakeFrom_4 : decode c_X_unmakeFrom 4 = .ok (.astore_n 2, 1) := by decide +kernel
theorem d_X_unmakeFrom_5 : decode c_X_unmakeFrom 5 = .ok (.aload_n 2, 1) := by decide +kernel
theorem d_X_unmakeFrom_6 : decode c_X_unmakeFrom 6 = .ok (.arraylength, 1) := by decide +kernel
theorem d_X_unmakeFrom_7 : decode c_X_unmakeFrom 7 = .ok (.istore_n 3, 1) := by decide +kernel
theorem d_X_unmakeFrom_8 : decode c_X_unmakeFrom 8 = .ok (.iconst 0, 1) := by decide +kernel
theorem d_X_unmakeFrom_9 : decode c_X_unmakeFrom 9 = .ok (.istore 4, 2) := by decide +kernel
theorem d_X_unmakeFrom_11 : decode c_X_unmakeFrom 11 = .ok (.iload 4, 2) := by decide +kernel
theorem d_X_unmakeFrom_13 : decode c_X_unmakeFrom 13 = .ok (.iload_n 3, 1) := by decide +kernel
theorem d_X_unmakeFrom_14 : decode c_X_unmakeFrom 14 = .ok (.if_icmp .ge 35, 3) := by decide +kernel
theorem d_X_unmakeFrom_17 : decode c_X_unmakeFrom 17 = .ok (.aload_n 2, 1) := by decide +kernel
theorem d_X_unmakeFrom_18 : decode c_X_unmakeFrom 18 = .ok (.iload 4, 2) := by decide +kernel
theorem d_X_unmakeFrom_20 : decode c_X_unmakeFrom 20 = .ok (.aaload, 1) := by decide +kernel
theorem d_X_unmakeFrom_21 : decode c_X_unmakeFrom 21 = .ok (.astore 5, 2) := by decide +kernel
theorem d_X_unmakeFrom_23 : decode c_X_unmakeFrom 23 = .ok (.aload 5, 2) := by decide +kernel
theorem d_X_unmakeFrom_25 : decode c_X_unmakeFrom 25 = .ok (.ifnull 18, 3) := by decide +kernel
theorem d_X_unmakeFrom_28 : decode c_X_unmakeFrom 28 = .ok (.aload 5, 2) := by decide +kernel
theorem d_X_unmakeFrom_30 : decode c_X_unmakeFrom 30 = .ok (.getfield 91, 3) := by decide +kernel
theorem d_X_unmakeFrom_33 : decode c_X_unmakeFrom 33 = .ok (.iload_n 1, 1) := by decide +kernel
theorem d_X_unmakeFrom_34 : decode c_X_unmakeFrom 34 = .ok (.if_icmp .lt 9, 3) := by decide +kernel
theorem d_X_unmakeFrom_37 : decode c_X_unmakeFrom 37 = .ok (.aload 5, 2) := by decide +kernel
theorem d_X_unmakeFrom_39 : decode c_X_unmakeFrom 39 = .ok (.iconst (-1), 1) := by decide +kernel
theorem d_X_unmakeFrom_40 : decode c_X_unmakeFrom 40 = .ok (.putfield 91, 3) := by decide +kernel
theorem d_X_unmakeFrom_43 : decode c_X_unmakeFrom 43 = .ok (.iinc 4 1, 3) := by decide +kernel
theorem d_X_unmakeFrom_46 : decode c_X_unmakeFrom 46 = .ok (.goto (-35), 3) := by decide +kernel
theorem d_X_unmakeFrom_49 : decode c_X_unmakeFrom 49 = .ok (.aload_n 0, 1) := by decide +kernel
theorem d_X_unmakeFrom_50 : decode c_X_unmakeFrom 50 = .ok (.iload_n 1, 1) := by decide +kernel
theorem d_X_unmakeFrom_51 : decode c_X_unmakeFrom 51 = .ok (.putfield 143, 3) := by decide +kernel
theorem d_X_unmakeFrom_54 : decode c_X_unmakeFrom 54 = .ok (.return_, 1) := by decide +kernel
theorem d_X_obtain_0 : decode c_X_obtain 0 = .ok (.aload_n 0, 1) := by decide +kernel
theorem d_X_obtain_1 : decode c_X_obtain 1 = .ok (.iload_n 1, 1) := by decide +kernel
theorem d_X_obtain_2 : decode c_X_obtain 2 = .ok (.iload_n 2, 1) := by decide +kernel
theorem d_X_obtain_3 : decode c_X_obtain 3 = .ok (.invokevirtual 124, 3) := by decide +kernel
theorem d_X_obtain_6 : decode c_X_obtain 6 = .ok (.astore 4, 2) := by decide +kernel
theorem d_X_obtain_8 : decode c_X_obtain 8 = .ok (.aload 4, 2) := by decide +kernel
theorem d_X_obtain_10 : decode c_X_obtain 10 = .ok (.ifnonnull 7, 3) := by decide +kernel
theorem d_X_obtain_13 : decode c_X_obtain 13 = .ok (.ldc2_w 162, 3) := by decide +kernel
theorem d_X_obtain_16 : decode c_X_obtain 16 = .ok (.lreturn, 1) := by decide +kernel
theorem d_X_obtain_17 : decode c_X_obtain 17 = .ok (.aload 4, 2) := by decide +kernel
theorem d_X_obtain_19 : decode c_X_obtain 19 = .ok (.getfield 164, 3) := by decide +kernel
theorem d_X_obtain_22 : decode c_X_obtain 22 = .ok (.getstatic 62, 3) := by decide +kernel
theorem d_X_obtain_25 : decode c_X_obtain 25 = .ok (.if_acmp .ne 14, 3) := by decide +kernel
theorem d_X_obtain_28 : decode c_X_obtain 28 = .ok (.ldc2_w 167, 3) := by decide +kernel
theorem d_X_obtain_31 : decode c_X_obtain 31 = .ok (.aload 4, 2) := by decide +kernel
theorem d_X_obtain_33 : decode c_X_obtain 33 = .ok (.getfield 169, 3) := by decide +kernel
theorem d_X_obtain_36 : decode c_X_obtain 36 = .ok (.i2l, 1) := by decide +kernel
theorem d_X_obtain_37 : decode c_X_obtain 37 = .ok (.ladd, 1) := by decide +kernel
theorem d_X_obtain_38 : decode c_X_obtain 38 = .ok (.lreturn, 1) := by decide +kernel
theorem d_X_obtain_39 : decode c_X_obtain 39 = .ok (.aload 4, 2) := by decide +kernel
theorem d_X_obtain_41 : decode c_X_obtain 41 = .ok (.getfield 91, 3) := by decide +kernel
theorem d_X_obtain_44 : decode c_X_obtain 44 = .ok (.iconst (-1), 1) := by decide +kernel
theorem d_X_obtain_45 : decode c_X_obtain 45 = .ok (.if_icmp .eq 10, 3) := by decide +kernel
theorem d_X_obtain_48 : decode c_X_obtain 48 = .ok (.aload 4, 2) := by decide +kernel
theorem d_X_obtain_50 : decode c_X_obtain 50 = .ok (.getfield 91, 3) := by decide +kernel
theorem d_X_obtain_53 : decode c_X_obtain 53 = .ok (.i2l, 1) := by decide +kernel
theorem d_X_obtain_54 : decode c_X_obtain 54 = .ok (.lreturn, 1) := by decide +kernel
theorem d_X_obtain_55 : decode c_X_obtain 55 = .ok (.aload 4, 2) := by decide +kernel
theorem d_X_obtain_57 : decode c_X_obtain 57 = .ok (.getfield 172, 3) := by decide +kernel
theorem d_X_obtain_60 : decode c_X_obtain 60 = .ok (.ifCond .ne 9, 3) := by decide +kernel
theorem d_X_obtain_63 : decode c_X_obtain 63 = .ok (.iload_n 3, 1) := by decide +kernel
theorem d_X_obtain_64 : decode c_X_obtain 64 = .ok (.bipush 36, 2) := by decide +kernel
theorem d_X_obtain_66 : decode c_X_obtain 66 = .ok (.if_icmp .lt 7, 3) := by decide +kernel
theorem d_X_obtain_69 : decode c_X_obtain 69 = .ok (.ldc2_w 175, 3) := by decide +kernel
theorem d_X_obtain_72 : decode c_X_obtain 72 = .ok (.lreturn, 1) := by decide +kernel
theorem d_X_obtain_73 : decode c_X_obtain 73 = .ok (.aload 4, 2) := by decide +kernel
theorem d_X_obtain_75 : decode c_X_obtain 75 = .ok (.iconst 1, 1) := by decide +kernel
theorem d_X_obtain_76 : decode c_X_obtain 76 = .ok (.putfield 172, 3) := by decide +kernel
theorem d_X_obtain_79 : decode c_X_obtain 79 = .ok (.aload 4, 2) := by decide +kernel
theorem d_X_obtain_81 : decode c_X_obtain 81 = .ok (.getfield 164, 3) := by decide +kernel
theorem d_X_obtain_84 : decode c_X_obtain 84 = .ok (.getstatic 71, 3) := by decide +kernel
theorem d_X_obtain_87 : decode c_X_obtain 87 = .ok (.if_acmp .ne 28, 3) := by decide +kernel
theorem d_X_obtain_90 : decode c_X_obtain 90 = .ok (.aload_n 0, 1) := by decide +kernel
theorem d_X_obtain_91 : decode c_X_obtain 91 = .ok (.aload 4, 2) := by decide +kernel
theorem d_X_obtain_93 : decode c_X_obtain 93 = .ok (.getfield 115, 3) := by decide +kernel
theorem d_X_obtain_96 : decode c_X_obtain 96 = .ok (.aload 4, 2) := by decide +kernel
theorem d_X_obtain_98 : decode c_X_obtain 98 = .ok (.getfield 108, 3) := by decide +kernel
theorem d_X_obtain_101 : decode c_X_obtain 101 = .ok (.getfield 118, 3) := by decide +kernel
theorem d_X_obtain_104 : decode c_X_obtain 104 = .ok (.iconst 0, 1) := by decide +kernel
theorem d_X_obtain_105 : decode c_X_obtain 105 = .ok (.iaload, 1) := by decide +kernel
theorem d_X_obtain_106 : decode c_X_obtain 106 = .ok (.iload_n 3, 1) := by decide +kernel
theorem d_X_obtain_107 : decode c_X_obtain 107 = .ok (.iconst 1, 1) := by decide +kernel
theorem d_X_obtain_108 : decode c_X_obtain 108 = .ok (.iadd, 1) := by decide +kernel
theorem d_X_obtain_109 : decode c_X_obtain 109 = .ok (.invokevirtual 150, 3) := by decide +kernel
theorem d_X_obtain_112 : decode c_X_obtain 112 = .ok (.goto 10, 3) := by decide +kernel
theorem d_X_obtain_115 : decode c_X_obtain 115 = .ok (.aload_n 0, 1) := by decide +kernel
theorem d_X_obtain_116 : decode c_X_obtain 116 = .ok (.aload 4, 2) := by decide +kernel
theorem d_X_obtain_118 : decode c_X_obtain 118 = .ok (.iload_n 3, 1) := by decide +kernel
theorem d_X_obtain_119 : decode c_X_obtain 119 = .ok (.invokevirtual 177, 3) := by decide +kernel
theorem d_X_obtain_122 : decode c_X_obtain 122 = .ok (.lstore 5, 2) := by decide +kernel
theorem d_X_obtain_124 : decode c_X_obtain 124 = .ok (.aload 4, 2) := by decide +kernel
theorem d_X_obtain_126 : decode c_X_obtain 126 = .ok (.iconst 0, 1) := by decide +kernel
theorem d_X_obtain_127 : decode c_X_obtain 127 = .ok (.putfield 172, 3) := by decide +kernel
theorem d_X_obtain_130 : decode c_X_obtain 130 = .ok (.lload 5, 2) := by decide +kernel
theorem d_X_obtain_132 : decode c_X_obtain 132 = .ok (.lreturn, 1) := by decide +kernel
theorem d_X_obtainNew_0 : decode c_X_obtainNew 0 = .ok (.aload_n 1, 1) := by decide +kernel
theorem d_X_obtainNew_1 : decode c_X_obtainNew 1 = .ok (.getfield 88, 3) := by decide +kernel
theorem d_X_obtainNew_4 : decode c_X_obtainNew 4 = .ok (.iconst 2, 1) := by decide +kernel
theorem d_X_obtainNew_5 : decode c_X_obtainNew 5 = .ok (.if_icmp .ne 14, 3) := by decide +kernel
theorem d_X_obtainNew_8 : decode c_X_obtainNew 8 = .ok (.aload_n 0, 1) := by decide +kernel
theorem d_X_obtainNew_9 : decode c_X_obtainNew 9 = .ok (.getfield 80, 3) := by decide +kernel
theorem d_X_obtainNew_12 : decode c_X_obtainNew 12 = .ok (.ifCond .ne 7, 3) := by decide +kernel
theorem d_X_obtainNew_15 : decode c_X_obtainNew 15 = .ok (.ldc2_w 181, 3) := by decide +kernel
theorem d_X_obtainNew_18 : decode c_X_obtainNew 18 = .ok (.lreturn, 1) := by decide +kernel
theorem d_X_obtainNew_19 : decode c_X_obtainNew 19 = .ok (.aload_n 1, 1) := by decide +kernel
theorem d_X_obtainNew_20 : decode c_X_obtainNew 20 = .ok (.getfield 108, 3) := by decide +kernel
theorem d_X_obtainNew_23 : decode c_X_obtainNew 23 = .ok (.astore_n 3, 1) := by decide +kernel
theorem d_X_obtainNew_24 : decode c_X_obtainNew 24 = .ok (.aload_n 1, 1) := by decide +kernel
theorem d_X_obtainNew_25 : decode c_X_obtainNew 25 = .ok (.getfield 115, 3) := by decide +kernel
theorem d_X_obtainNew_28 : decode c_X_obtainNew 28 = .ok (.aload_n 1, 1) := by decide +kernel
theorem d_X_obtainNew_29 : decode c_X_obtainNew 29 = .ok (.getfield 121, 3) := by decide +kernel
theorem d_X_obtainNew_32 : decode c_X_obtainNew 32 = .ok (.invokestatic 58, 3) := by decide +kernel
theorem d_X_obtainNew_35 : decode c_X_obtainNew 35 = .ok (.iconst 4, 1) := by decide +kernel
theorem d_X_obtainNew_36 : decode c_X_obtainNew 36 = .ok (.imul, 1) := by decide +kernel
theorem d_X_obtainNew_37 : decode c_X_obtainNew 37 = .ok (.istore 4, 2) := by decide +kernel
theorem d_X_obtainNew_39 : decode c_X_obtainNew 39 = .ok (.iconst 0, 1) := by decide +kernel
theorem d_X_obtainNew_40 : decode c_X_obtainNew 40 = .ok (.istore 5, 2) := by decide +kernel
theorem d_X_obtainNew_42 : decode c_X_obtainNew 42 = .ok (.iload 5, 2) := by decide +kernel
theorem d_X_obtainNew_44 : decode c_X_obtainNew 44 = .ok (.aload_n 3, 1) := by decide +kernel
theorem d_X_obtainNew_45 : decode c_X_obtainNew 45 = .ok (.getfield 47, 3) := by decide +kernel
theorem d_X_obtainNew_48 : decode c_X_obtainNew 48 = .ok (.if_icmp .ge 79, 3) := by decide +kernel
theorem d_X_obtainNew_51 : decode c_X_obtainNew 51 = .ok (.aload_n 3, 1) := by decide +kernel
theorem d_X_obtainNew_52 : decode c_X_obtainNew 52 = .ok (.getfield 111, 3) := by decide +kernel
theorem d_X_obtainNew_55 : decode c_X_obtainNew 55 = .ok (.iload 5, 2) := by decide +kernel
theorem d_X_obtainNew_57 : decode c_X_obtainNew 57 = .ok (.baload, 1) := by decide +kernel
theorem d_X_obtainNew_58 : decode c_X_obtainNew 58 = .ok (.ifCond .eq 20, 3) := by decide +kernel
theorem d_X_obtainNew_61 : decode c_X_obtainNew 61 = .ok (.aload_n 1, 1) := by decide +kernel
theorem d_X_obtainNew_62 : decode c_X_obtainNew 62 = .ok (.getfield 115, 3) := by decide +kernel
theorem d_X_obtainNew_65 : decode c_X_obtainNew 65 = .ok (.aload_n 3, 1) := by decide +kernel
theorem d_X_obtainNew_66 : decode c_X_obtainNew 66 = .ok (.getfield 118, 3) := by decide +kernel
theorem d_X_obtainNew_69 : decode c_X_obtainNew 69 = .ok (.iload 5, 2) := by decide +kernel
theorem d_X_obtainNew_71 : decode c_X_obtainNew 71 = .ok (.iaload, 1) := by decide +kernel
theorem d_X_obtainNew_72 : decode c_X_obtainNew 72 = .ok (.invokestatic 183, 3) := by decide +kernel
theorem d_X_obtainNew_75 : decode c_X_obtainNew 75 = .ok (.goto 21, 3) := by decide +kernel
theorem d_X_obtainNew_78 : decode c_X_obtainNew 78 = .ok (.aload_n 0, 1) := by decide +kernel
theorem d_X_obtainNew_79 : decode c_X_obtainNew 79 = .ok (.aload_n 1, 1) := by decide +kernel
theorem d_X_obtainNew_80 : decode c_X_obtainNew 80 = .ok (.getfield 115, 3) := by decide +kernel
theorem d_X_obtainNew_83 : decode c_X_obtainNew 83 = .ok (.aload_n 3, 1) := by decide +kernel
theorem d_X_obtainNew_84 : decode c_X_obtainNew 84 = .ok (.getfield 118, 3) := by decide +kernel
theorem d_X_obtainNew_87 : decode c_X_obtainNew 87 = .ok (.iload 5, 2) := by decide +kernel
theorem d_X_obtainNew_89 : decode c_X_obtainNew 89 = .ok (.iaload, 1) := by decide +kernel
theorem d_X_obtainNew_90 : decode c_X_obtainNew 90 = .ok (.iload_n 2, 1) := by decide +kernel
theorem d_X_obtainNew_91 : decode c_X_obtainNew 91 = .ok (.iconst 1, 1) := by decide +kernel
theorem d_X_obtainNew_92 : decode c_X_obtainNew 92 = .ok (.iadd, 1) := by decide +kernel
theorem d_X_obtainNew_93 : decode c_X_obtainNew 93 = .ok (.invokevirtual 150, 3) := by decide +kernel
theorem d_X_obtainNew_96 : decode c_X_obtainNew 96 = .ok (.lstore 6, 2) := by decide +kernel
theorem d_X_obtainNew_98 : decode c_X_obtainNew 98 = .ok (.lload 6, 2) := by decide +kernel
theorem d_X_obtainNew_100 : decode c_X_obtainNew 100 = .ok (.invokestatic 154, 3) := by decide +kernel
theorem d_X_obtainNew_103 : decode c_X_obtainNew 103 = .ok (.ifCond .eq 6, 3) := by decide +kernel
theorem d_X_obtainNew_106 : decode c_X_obtainNew 106 = .ok (.lload 6, 2) := by decide +kernel
theorem d_X_obtainNew_108 : decode c_X_obtainNew 108 = .ok (.lreturn, 1) := by decide +kernel
theorem d_X_obtainNew_109 : decode c_X_obtainNew 109 = .ok (.aload_n 0, 1) := by decide +kernel
theorem d_X_obtainNew_110 : decode c_X_obtainNew 110 = .ok (.getfield 30, 3) := by decide +kernel
theorem d_X_obtainNew_113 : decode c_X_obtainNew 113 = .ok (.iload 4, 2) := by decide +kernel
theorem d_X_obtainNew_115 : decode c_X_obtainNew 115 = .ok (.iload 5, 2) := by decide +kernel
theorem d_X_obtainNew_117 : decode c_X_obtainNew 117 = .ok (.iadd, 1) := by decide +kernel
theorem d_X_obtainNew_118 : decode c_X_obtainNew 118 = .ok (.lload 6, 2) := by decide +kernel
theorem d_X_obtainNew_120 : decode c_X_obtainNew 120 = .ok (.lastore, 1) := by decide +kernel
theorem d_X_obtainNew_121 : decode c_X_obtainNew 121 = .ok (.iinc 5 1, 3) := by decide +kernel
theorem d_X_obtainNew_124 : decode c_X_obtainNew 124 = .ok (.goto (-82), 3) := by decide +kernel
theorem d_X_obtainNew_127 : decode c_X_obtainNew 127 = .ok (.aload_n 0, 1) := by decide +kernel
theorem d_X_obtainNew_128 : decode c_X_obtainNew 128 = .ok (.getfield 143, 3) := by decide +kernel
theorem d_X_obtainNew_131 : decode c_X_obtainNew 131 = .ok (.bipush 100, 2) := by decide +kernel
theorem d_X_obtainNew_133 : decode c_X_obtainNew 133 = .ok (.if_icmp .lt 9, 3) := by decide +kernel
theorem d_X_obtainNew_136 : decode c_X_obtainNew 136 = .ok (.ldc2_w 186, 3) := by decide +kernel
theorem d_X_obtainNew_139 : decode c_X_obtainNew 139 = .ok (.goto 11, 3) := by decide +kernel
theorem d_X_obtainNew_142 : decode c_X_obtainNew 142 = .ok (.aload_n 0, 1) := by decide +kernel
theorem d_X_obtainNew_143 : decode c_X_obtainNew 143 = .ok (.aload_n 1, 1) := by decide +kernel
theorem d_X_obtainNew_144 : decode c_X_obtainNew 144 = .ok (.iload 4, 2) := by decide +kernel
theorem d_X_obtainNew_146 : decode c_X_obtainNew 146 = .ok (.invokevirtual 188, 3) := by decide +kernel
theorem d_X_obtainNew_149 : decode c_X_obtainNew 149 = .ok (.i2l, 1) := by decide +kernel
theorem d_X_obtainNew_150 : decode c_X_obtainNew 150 = .ok (.lreturn, 1) := by decide +kernel
theorem d_X_makeInstance_0 : decode c_X_makeInstance 0 = .ok (.aload_n 0, 1) := by decide +kernel
theorem d_X_makeInstance_1 : decode c_X_makeInstance 1 = .ok (.getfield 143, 3) := by decide +kernel
theorem d_X_makeInstance_4 : decode c_X_makeInstance 4 = .ok (.istore_n 3, 1) := by decide +kernel
theorem d_X_makeInstance_5 : decode c_X_makeInstance 5 = .ok (.aload_n 0, 1) := by decide +kernel
theorem d_X_makeInstance_6 : decode c_X_makeInstance 6 = .ok (.dup, 1) := by decide +kernel
theorem d_X_makeInstance_7 : decode c_X_makeInstance 7 = .ok (.getfield 143, 3) := by decide +kernel
theorem d_X_makeInstance_10 : decode c_X_makeInstance 10 = .ok (.iconst 1, 1) := by decide +kernel
theorem d_X_makeInstance_11 : decode c_X_makeInstance 11 = .ok (.iadd, 1) := by decide +kernel
theorem d_X_makeInstance_12 : decode c_X_makeInstance 12 = .ok (.putfield 143, 3) := by decide +kernel
theorem d_X_makeInstance_15 : decode c_X_makeInstance 15 = .ok (.aload_n 0, 1) := by decide +kernel
theorem d_X_makeInstance_16 : decode c_X_makeInstance 16 = .ok (.getfield 23, 3) := by decide +kernel
theorem d_X_makeInstance_19 : decode c_X_makeInstance 19 = .ok (.iload_n 3, 1) := by decide +kernel
theorem d_X_makeInstance_20 : decode c_X_makeInstance 20 = .ok (.aload_n 1, 1) := by decide +kernel
theorem d_X_makeInstance_21 : decode c_X_makeInstance 21 = .ok (.aastore, 1) := by decide +kernel
theorem d_X_makeInstance_22 : decode c_X_makeInstance 22 = .ok (.aload_n 0, 1) := by decide +kernel
theorem d_X_makeInstance_23 : decode c_X_makeInstance 23 = .ok (.getfield 30, 3) := by decide +kernel
theorem d_X_makeInstance_26 : decode c_X_makeInstance 26 = .ok (.iload_n 2, 1) := by decide +kernel
theorem d_X_makeInstance_27 : decode c_X_makeInstance 27 = .ok (.aload_n 0, 1) := by decide +kernel
theorem d_X_makeInstance_28 : decode c_X_makeInstance 28 = .ok (.getfield 26, 3) := by decide +kernel
theorem d_X_makeInstance_31 : decode c_X_makeInstance 31 = .ok (.iload_n 3, 1) := by decide +kernel
theorem d_X_makeInstance_32 : decode c_X_makeInstance 32 = .ok (.iconst 4, 1) := by decide +kernel
theorem d_X_makeInstance_33 : decode c_X_makeInstance 33 = .ok (.imul, 1) := by decide +kernel
theorem d_X_makeInstance_34 : decode c_X_makeInstance 34 = .ok (.iconst 4, 1) := by decide +kernel
theorem d_X_makeInstance_35 : decode c_X_makeInstance 35 = .ok (.invokestatic 192, 3) := by decide +kernel
theorem d_X_makeInstance_38 : decode c_X_makeInstance 38 = .ok (.aload_n 1, 1) := by decide +kernel
theorem d_X_makeInstance_39 : decode c_X_makeInstance 39 = .ok (.getfield 88, 3) := by decide +kernel
theorem d_X_makeInstance_42 : decode c_X_makeInstance 42 = .ok (.ifCond .eq 8, 3) := by decide +kernel
theorem d_X_makeInstance_45 : decode c_X_makeInstance 45 = .ok (.aload_n 1, 1) := by decide +kernel
theorem d_X_makeInstance_46 : decode c_X_makeInstance 46 = .ok (.iload_n 3, 1) := by decide +kernel
theorem d_X_makeInstance_47 : decode c_X_makeInstance 47 = .ok (.putfield 91, 3) := by decide +kernel
theorem d_X_makeInstance_50 : decode c_X_makeInstance 50 = .ok (.iload_n 3, 1) := by decide +kernel
theorem d_X_makeInstance_51 : decode c_X_makeInstance 51 = .ok (.ireturn, 1) := by decide +kernel
theorem d_X_handleOf_0 : decode c_X_handleOf 0 = .ok (.ldc2_w 198, 3) := by decide +kernel
theorem d_X_handleOf_3 : decode c_X_handleOf 3 = .ok (.bipush 16, 2) := by decide +kernel
theorem d_X_handleOf_5 : decode c_X_handleOf 5 = .ok (.iload_n 0, 1) := by decide +kernel
theorem d_X_handleOf_6 : decode c_X_handleOf 6 = .ok (.imul, 1) := by decide +kernel
theorem d_X_handleOf_7 : decode c_X_handleOf 7 = .ok (.i2l, 1) := by decide +kernel
theorem d_X_handleOf_8 : decode c_X_handleOf 8 = .ok (.ladd, 1) := by decide +kernel
theorem d_X_handleOf_9 : decode c_X_handleOf 9 = .ok (.iload_n 1, 1) := by decide +kernel
theorem d_X_handleOf_10 : decode c_X_handleOf 10 = .ok (.i2l, 1) := by decide +kernel
theorem d_X_handleOf_11 : decode c_X_handleOf 11 = .ok (.ladd, 1) := by decide +kernel
theorem d_X_handleOf_12 : decode c_X_handleOf 12 = .ok (.lreturn, 1) := by decide +kernel
theorem d_X_nextPairs_0 : decode c_X_nextPairs 0 = .ok (.aload_n 0, 1) := by decide +kernel
theorem d_X_nextPairs_1 : decode c_X_nextPairs 1 = .ok (.iload_n 1, 1) := by decide +kernel
theorem d_X_nextPairs_2 : decode c_X_nextPairs 2 = .ok (.iload_n 2, 1) := by decide +kernel
theorem d_X_nextPairs_3 : decode c_X_nextPairs 3 = .ok (.invokevirtual 124, 3) := by decide +kernel
theorem d_X_nextPairs_6 : decode c_X_nextPairs 6 = .ok (.astore_n 3, 1) := by decide +kernel
theorem d_X_nextPairs_7 : decode c_X_nextPairs 7 = .ok (.aload_n 3, 1) := by decide +kernel
theorem d_X_nextPairs_8 : decode c_X_nextPairs 8 = .ok (.ifnonnull 5, 3) := by decide +kernel
theorem d_X_nextPairs_11 : decode c_X_nextPairs 11 = .ok (.lconst 0, 1) := by decide +kernel
theorem d_X_nextPairs_12 : decode c_X_nextPairs 12 = .ok (.lreturn, 1) := by decide +kernel
theorem d_X_nextPairs_13 : decode c_X_nextPairs 13 = .ok (.lconst 0, 1) := by decide +kernel
theorem d_X_nextPairs_14 : decode c_X_nextPairs 14 = .ok (.lstore 4, 2) := by decide +kernel
theorem d_X_nextPairs_16 : decode c_X_nextPairs 16 = .ok (.iconst 0, 1) := by decide +kernel
theorem d_X_nextPairs_17 : decode c_X_nextPairs 17 = .ok (.istore 6, 2) := by decide +kernel
theorem d_X_nextPairs_19 : decode c_X_nextPairs 19 = .ok (.iload 6, 2) := by decide +kernel
theorem d_X_nextPairs_21 : decode c_X_nextPairs 21 = .ok (.aload_n 3, 1) := by decide +kernel
theorem d_X_nextPairs_22 : decode c_X_nextPairs 22 = .ok (.getfield 108, 3) := by decide +kernel
theorem d_X_nextPairs_25 : decode c_X_nextPairs 25 = .ok (.getfield 47, 3) := by decide +kernel
theorem d_X_nextPairs_28 : decode c_X_nextPairs 28 = .ok (.if_icmp .ge 33, 3) := by decide +kernel
theorem d_X_nextPairs_31 : decode c_X_nextPairs 31 = .ok (.lload 4, 2) := by decide +kernel
theorem d_X_nextPairs_33 : decode c_X_nextPairs 33 = .ok (.lconst 1, 1) := by decide +kernel
theorem d_X_nextPairs_34 : decode c_X_nextPairs 34 = .ok (.aload_n 3, 1) := by decide +kernel
theorem d_X_nextPairs_35 : decode c_X_nextPairs 35 = .ok (.getfield 115, 3) := by decide +kernel
theorem d_X_nextPairs_38 : decode c_X_nextPairs 38 = .ok (.aload_n 3, 1) := by decide +kernel
theorem d_X_nextPairs_39 : decode c_X_nextPairs 39 = .ok (.getfield 108, 3) := by decide +kernel
theorem d_X_nextPairs_42 : decode c_X_nextPairs 42 = .ok (.getfield 118, 3) := by decide +kernel
theorem d_X_nextPairs_45 : decode c_X_nextPairs 45 = .ok (.iload 6, 2) := by decide +kernel
theorem d_X_nextPairs_47 : decode c_X_nextPairs 47 = .ok (.iaload, 1) := by decide +kernel
theorem d_X_nextPairs_48 : decode c_X_nextPairs 48 = .ok (.invokestatic 58, 3) := by decide +kernel
theorem d_X_nextPairs_51 : decode c_X_nextPairs 51 = .ok (.lshl, 1) := by decide +kernel
theorem d_X_nextPairs_52 : decode c_X_nextPairs 52 = .ok (.lor, 1) := by decide +kernel
theorem d_X_nextPairs_53 : decode c_X_nextPairs 53 = .ok (.lstore 4, 2) := by decide +kernel
theorem d_X_nextPairs_55 : decode c_X_nextPairs 55 = .ok (.iinc 6 1, 3) := by decide +kernel
theorem d_X_nextPairs_58 : decode c_X_nextPairs 58 = .ok (.goto (-39), 3) := by decide +kernel
theorem d_X_nextPairs_61 : decode c_X_nextPairs 61 = .ok (.lload 4, 2) := by decide +kernel
theorem d_X_nextPairs_63 : decode c_X_nextPairs 63 = .ok (.lreturn, 1) := by decide +kernel
theorem d_X_keysOf_0 : decode c_X_keysOf 0 = .ok (.lconst 0, 1) := by decide +kernel
theorem d_X_keysOf_1 : decode c_X_keysOf 1 = .ok (.lstore_n 2, 1) := by decide +kernel
theorem d_X_keysOf_2 : decode c_X_keysOf 2 = .ok (.iconst 0, 1) := by decide +kernel
theorem d_X_keysOf_3 : decode c_X_keysOf 3 = .ok (.istore 4, 2) := by decide +kernel
theorem d_X_keysOf_5 : decode c_X_keysOf 5 = .ok (.iload 4, 2) := by decide +kernel
theorem d_X_keysOf_7 : decode c_X_keysOf 7 = .ok (.iconst 3, 1) := by decide +kernel
theorem d_X_keysOf_8 : decode c_X_keysOf 8 = .ok (.if_icmp .ge 20, 3) := by decide +kernel
theorem d_X_keysOf_11 : decode c_X_keysOf 11 = .ok (.lload_n 2, 1) := by decide +kernel
theorem d_X_keysOf_12 : decode c_X_keysOf 12 = .ok (.lload_n 0, 1) := by decide +kernel
theorem d_X_keysOf_13 : decode c_X_keysOf 13 = .ok (.iload 4, 2) := by decide +kernel
theorem d_X_keysOf_15 : decode c_X_keysOf 15 = .ok (.iconst 0, 1) := by decide +kernel
theorem d_X_keysOf_16 : decode c_X_keysOf 16 = .ok (.invokestatic 58, 3) := by decide +kernel
theorem d_X_keysOf_19 : decode c_X_keysOf 19 = .ok (.lushr, 1) := by decide +kernel
theorem d_X_keysOf_20 : decode c_X_keysOf 20 = .ok (.lor, 1) := by decide +kernel
theorem d_X_keysOf_21 : decode c_X_keysOf 21 = .ok (.lstore_n 2, 1) := by decide +kernel
theorem d_X_keysOf_22 : decode c_X_keysOf 22 = .ok (.iinc 4 1, 3) := by decide +kernel
theorem d_X_keysOf_25 : decode c_X_keysOf 25 = .ok (.goto (-20), 3) := by decide +kernel
theorem d_X_keysOf_28 : decode c_X_keysOf 28 = .ok (.lload_n 2, 1) := by decide +kernel
theorem d_X_keysOf_29 : decode c_X_keysOf 29 = .ok (.l2i, 1) := by decide +kernel
theorem d_X_keysOf_30 : decode c_X_keysOf 30 = .ok (.sipush 4095, 3) := by decide +kernel
theorem d_X_keysOf_33 : decode c_X_keysOf 33 = .ok (.iand, 1) := by decide +kernel
theorem d_X_keysOf_34 : decode c_X_keysOf 34 = .ok (.ireturn, 1) := by decide +kernel
theorem d_X_countBindings_0 : decode c_X_countBindings 0 = .ok (.iconst 0, 1) := by decide +kernel
theorem d_X_countBindings_1 : decode c_X_countBindings 1 = .ok (.istore_n 1, 1) := by decide +kernel
theorem d_X_countBindings_2 : decode c_X_countBindings 2 = .ok (.aload_n 0, 1) := by decide +kernel
theorem d_X_countBindings_3 : decode c_X_countBindings 3 = .ok (.getfield 19, 3) := by decide +kernel
theorem d_X_countBindings_6 : decode c_X_countBindings 6 = .ok (.astore_n 2, 1) := by decide +kernel
theorem d_X_countBindings_7 : decode c_X_countBindings 7 = .ok (.aload_n 2, 1) := by decide +kernel
theorem d_X_countBindings_8 : decode c_X_countBindings 8 = .ok (.arraylength, 1) := by decide +kernel
theorem d_X_countBindings_9 : decode c_X_countBindings 9 = .ok (.istore_n 3, 1) := by decide +kernel
theorem d_X_countBindings_10 : decode c_X_countBindings 10 = .ok (.iconst 0, 1) := by decide +kernel
theorem d_X_countBindings_11 : decode c_X_countBindings 11 = .ok (.istore 4, 2) := by decide +kernel
theorem d_X_countBindings_13 : decode c_X_countBindings 13 = .ok (.iload 4, 2) := by decide +kernel
theorem d_X_countBindings_15 : decode c_X_countBindings 15 = .ok (.iload_n 3, 1) := by decide +kernel
theorem d_X_countBindings_16 : decode c_X_countBindings 16 = .ok (.if_icmp .ge 23, 3) := by decide +kernel
theorem d_X_countBindings_19 : decode c_X_countBindings 19 = .ok (.aload_n 2, 1) := by decide +kernel
theorem d_X_countBindings_20 : decode c_X_countBindings 20 = .ok (.iload 4, 2) := by decide +kernel
theorem d_X_countBindings_22 : decode c_X_countBindings 22 = .ok (.aaload, 1) := by decide +kernel
theorem d_X_countBindings_23 : decode c_X_countBindings 23 = .ok (.astore 5, 2) := by decide +kernel
theorem d_X_countBindings_25 : decode c_X_countBindings 25 = .ok (.aload 5, 2) := by decide +kernel
theorem d_X_countBindings_27 : decode c_X_countBindings 27 = .ok (.ifnull 6, 3) := by decide +kernel
theorem d_X_countBindings_30 : decode c_X_countBindings 30 = .ok (.iinc 1 1, 3) := by decide +kernel
theorem d_X_countBindings_33 : decode c_X_countBindings 33 = .ok (.iinc 4 1, 3) := by decide +kernel
theorem d_X_countBindings_36 : decode c_X_countBindings 36 = .ok (.goto (-23), 3) := by decide +kernel
theorem d_X_countBindings_39 : decode c_X_countBindings 39 = .ok (.iload_n 1, 1) := by decide +kernel
theorem d_X_countBindings_40 : decode c_X_countBindings 40 = .ok (.ireturn, 1) := by decide +kernel
theorem d_X_countKept_0 : decode c_X_countKept 0 = .ok (.iconst 0, 1) := by decide +kernel
theorem d_X_countKept_1 : decode c_X_countKept 1 = .ok (.istore_n 2, 1) := by decide +kernel
theorem d_X_countKept_2 : decode c_X_countKept 2 = .ok (.aload_n 0, 1) := by decide +kernel
theorem d_X_countKept_3 : decode c_X_countKept 3 = .ok (.getfield 19, 3) := by decide +kernel
theorem d_X_countKept_6 : decode c_X_countKept 6 = .ok (.astore_n 3, 1) := by decide +kernel
theorem d_X_countKept_7 : decode c_X_countKept 7 = .ok (.aload_n 3, 1) := by decide +kernel
theorem d_X_countKept_8 : decode c_X_countKept 8 = .ok (.arraylength, 1) := by decide +kernel
theorem d_X_countKept_9 : decode c_X_countKept 9 = .ok (.istore 4, 2) := by decide +kernel
theorem d_X_countKept_11 : decode c_X_countKept 11 = .ok (.iconst 0, 1) := by decide +kernel
theorem d_X_countKept_12 : decode c_X_countKept 12 = .ok (.istore 5, 2) := by decide +kernel
theorem d_X_countKept_14 : decode c_X_countKept 14 = .ok (.iload 5, 2) := by decide +kernel
theorem d_X_countKept_16 : decode c_X_countKept 16 = .ok (.iload 4, 2) := by decide +kernel
theorem d_X_countKept_18 : decode c_X_countKept 18 = .ok (.if_icmp .ge 41, 3) := by decide +kernel
theorem d_X_countKept_21 : decode c_X_countKept 21 = .ok (.aload_n 3, 1) := by decide +kernel
theorem d_X_countKept_22 : decode c_X_countKept 22 = .ok (.iload 5, 2) := by decide +kernel
theorem d_X_countKept_24 : decode c_X_countKept 24 = .ok (.aaload, 1) := by decide +kernel
theorem d_X_countKept_25 : decode c_X_countKept 25 = .ok (.astore 6, 2) := by decide +kernel
theorem d_X_countKept_27 : decode c_X_countKept 27 = .ok (.aload 6, 2) := by decide +kernel
theorem d_X_countKept_29 : decode c_X_countKept 29 = .ok (.ifnull 24, 3) := by decide +kernel
theorem d_X_countKept_32 : decode c_X_countKept 32 = .ok (.aload 6, 2) := by decide +kernel
theorem d_X_countKept_34 : decode c_X_countKept 34 = .ok (.getfield 88, 3) := by decide +kernel
theorem d_X_countKept_37 : decode c_X_countKept 37 = .ok (.iload_n 1, 1) := by decide +kernel
theorem d_X_countKept_38 : decode c_X_countKept 38 = .ok (.if_icmp .ne 15, 3) := by decide +kernel
theorem d_X_countKept_41 : decode c_X_countKept 41 = .ok (.aload 6, 2) := by decide +kernel
theorem d_X_countKept_43 : decode c_X_countKept 43 = .ok (.getfield 91, 3) := by decide +kernel
theorem d_X_countKept_46 : decode c_X_countKept 46 = .ok (.iconst (-1), 1) := by decide +kernel
theorem d_X_countKept_47 : decode c_X_countKept 47 = .ok (.if_icmp .eq 6, 3) := by decide +kernel
theorem d_X_countKept_50 : decode c_X_countKept 50 = .ok (.iinc 2 1, 3) := by decide +kernel
theorem d_X_countKept_53 : decode c_X_countKept 53 = .ok (.iinc 5 1, 3) := by decide +kernel
theorem d_X_countKept_56 : decode c_X_countKept 56 = .ok (.goto (-42), 3) := by decide +kernel
theorem d_X_countKept_59 : decode c_X_countKept 59 = .ok (.iload_n 2, 1) := by decide +kernel
theorem d_X_countKept_60 : decode c_X_countKept 60 = .ok (.ireturn, 1) := by decide +kernel
theorem d_B_init_0 : decode c_B_init 0 = .ok (.aload_n 0, 1) := by decide +kernel
theorem d_B_init_1 : decode c_B_init 1 = .ok (.invokespecial 3, 3) := by decide +kernel
theorem d_B_init_4 : decode c_B_init 4 = .ok (.aload_n 0, 1) := by decide +kernel
theorem d_B_init_5 : decode c_B_init 5 = .ok (.aload_n 1, 1) := by decide +kernel
theorem d_B_init_6 : decode c_B_init 6 = .ok (.putfield 9, 3) := by decide +kernel
theorem d_B_init_9 : decode c_B_init 9 = .ok (.aload_n 0, 1) := by decide +kernel
theorem d_B_init_10 : decode c_B_init 10 = .ok (.iload_n 2, 1) := by decide +kernel
theorem d_B_init_11 : decode c_B_init 11 = .ok (.putfield 15, 3) := by decide +kernel
theorem d_B_init_14 : decode c_B_init 14 = .ok (.aload_n 0, 1) := by decide +kernel
theorem d_B_init_15 : decode c_B_init 15 = .ok (.iload_n 3, 1) := by decide +kernel
theorem d_B_init_16 : decode c_B_init 16 = .ok (.putfield 19, 3) := by decide +kernel
theorem d_B_init_19 : decode c_B_init 19 = .ok (.aload_n 0, 1) := by decide +kernel
theorem d_B_init_20 : decode c_B_init 20 = .ok (.iload 4, 2) := by decide +kernel
theorem d_B_init_22 : decode c_B_init 22 = .ok (.putfield 22, 3) := by decide +kernel
theorem d_B_init_25 : decode c_B_init 25 = .ok (.aload_n 0, 1) := by decide +kernel
theorem d_B_init_26 : decode c_B_init 26 = .ok (.iload 5, 2) := by decide +kernel
theorem d_B_init_28 : decode c_B_init 28 = .ok (.putfield 25, 3) := by decide +kernel
theorem d_B_init_31 : decode c_B_init 31 = .ok (.aload_n 0, 1) := by decide +kernel
theorem d_B_init_32 : decode c_B_init 32 = .ok (.aload 6, 2) := by decide +kernel
theorem d_B_init_34 : decode c_B_init 34 = .ok (.putfield 28, 3) := by decide +kernel
theorem d_B_init_37 : decode c_B_init 37 = .ok (.aload_n 0, 1) := by decide +kernel
theorem d_B_init_38 : decode c_B_init 38 = .ok (.iconst (-1), 1) := by decide +kernel
theorem d_B_init_39 : decode c_B_init 39 = .ok (.putfield 32, 3) := by decide +kernel
theorem d_B_init_42 : decode c_B_init 42 = .ok (.return_, 1) := by decide +kernel
theorem d_N_init_0 : decode c_N_init 0 = .ok (.aload_n 0, 1) := by decide +kernel
theorem d_N_init_1 : decode c_N_init 1 = .ok (.invokespecial 3, 3) := by decide +kernel
theorem d_N_init_4 : decode c_N_init 4 = .ok (.aload_n 0, 1) := by decide +kernel
theorem d_N_init_5 : decode c_N_init 5 = .ok (.iconst 4, 1) := by decide +kernel
theorem d_N_init_6 : decode c_N_init 6 = .ok (.newarray .int, 2) := by decide +kernel
theorem d_N_init_8 : decode c_N_init 8 = .ok (.putfield 9, 3) := by decide +kernel
theorem d_N_init_11 : decode c_N_init 11 = .ok (.aload_n 0, 1) := by decide +kernel
theorem d_N_init_12 : decode c_N_init 12 = .ok (.iconst 4, 1) := by decide +kernel
theorem d_N_init_13 : decode c_N_init 13 = .ok (.newarray .boolean, 2) := by decide +kernel
theorem d_N_init_15 : decode c_N_init 15 = .ok (.putfield 15, 3) := by decide +kernel
theorem d_N_init_18 : decode c_N_init 18 = .ok (.return_, 1) := by decide +kernel
theorem d_N_append_0 : decode c_N_append 0 = .ok (.aload_n 0, 1) := by decide +kernel
theorem d_N_append_1 : decode c_N_append 1 = .ok (.getfield 19, 3) := by decide +kernel
theorem d_N_append_4 : decode c_N_append 4 = .ok (.iconst 4, 1) := by decide +kernel
theorem d_N_append_5 : decode c_N_append 5 = .ok (.if_icmp .ge 33, 3) := by decide +kernel
theorem d_N_append_8 : decode c_N_append 8 = .ok (.aload_n 0, 1) := by decide +kernel
theorem d_N_append_9 : decode c_N_append 9 = .ok (.getfield 9, 3) := by decide +kernel
theorem d_N_append_12 : decode c_N_append 12 = .ok (.aload_n 0, 1) := by decide +kernel
theorem d_N_append_13 : decode c_N_append 13 = .ok (.getfield 19, 3) := by decide +kernel
theorem d_N_append_16 : decode c_N_append 16 = .ok (.iload_n 1, 1) := by decide +kernel
theorem d_N_append_17 : decode c_N_append 17 = .ok (.iastore, 1) := by decide +kernel
theorem d_N_append_18 : decode c_N_append 18 = .ok (.aload_n 0, 1) := by decide +kernel
theorem d_N_append_19 : decode c_N_append 19 = .ok (.getfield 15, 3) := by decide +kernel
theorem d_N_append_22 : decode c_N_append 22 = .ok (.aload_n 0, 1) := by decide +kernel
theorem d_N_append_23 : decode c_N_append 23 = .ok (.getfield 19, 3) := by decide +kernel
theorem d_N_append_26 : decode c_N_append 26 = .ok (.iload_n 2, 1) := by decide +kernel
theorem d_N_append_27 : decode c_N_append 27 = .ok (.bastore, 1) := by decide +kernel
theorem d_N_append_28 : decode c_N_append 28 = .ok (.aload_n 0, 1) := by decide +kernel
theorem d_N_append_29 : decode c_N_append 29 = .ok (.dup, 1) := by decide +kernel
theorem d_N_append_30 : decode c_N_append 30 = .ok (.getfield 19, 3) := by decide +kernel
theorem d_N_append_33 : decode c_N_append 33 = .ok (.iconst 1, 1) := by decide +kernel
theorem d_N_append_34 : decode c_N_append 34 = .ok (.iadd, 1) := by decide +kernel
theorem d_N_append_35 : decode c_N_append 35 = .ok (.putfield 19, 3) := by decide +kernel
theorem d_N_append_38 : decode c_N_append 38 = .ok (.return_, 1) := by decide +kernel
theorem d_I_numberOfTrailingZeros_0 : decode c_I_numberOfTrailingZeros 0 = .ok (.iload_n 0, 1) := by decide +kernel
theorem d_I_numberOfTrailingZeros_1 : decode c_I_numberOfTrailingZeros 1 = .ok (.iconst (-1), 1) := by decide +kernel
theorem d_I_numberOfTrailingZeros_2 : decode c_I_numberOfTrailingZeros 2 = .ok (.ixor, 1) := by decide +kernel
theorem d_I_numberOfTrailingZeros_3 : decode c_I_numberOfTrailingZeros 3 = .ok (.iload_n 0, 1) := by decide +kernel
theorem d_I_numberOfTrailingZeros_4 : decode c_I_numberOfTrailingZeros 4 = .ok (.iconst 1, 1) := by decide +kernel
theorem d_I_numberOfTrailingZeros_5 : decode c_I_numberOfTrailingZeros 5 = .ok (.isub, 1) := by decide +kernel
theorem d_I_numberOfTrailingZeros_6 : decode c_I_numberOfTrailingZeros 6 = .ok (.iand, 1) := by decide +kernel
theorem d_I_numberOfTrailingZeros_7 : decode c_I_numberOfTrailingZeros 7 = .ok (.istore_n 0, 1) := by decide +kernel
theorem d_I_numberOfTrailingZeros_8 : decode c_I_numberOfTrailingZeros 8 = .ok (.iload_n 0, 1) := by decide +kernel
theorem d_I_numberOfTrailingZeros_9 : decode c_I_numberOfTrailingZeros 9 = .ok (.ifCond .gt 8, 3) := by decide +kernel
theorem d_I_numberOfTrailingZeros_12 : decode c_I_numberOfTrailingZeros 12 = .ok (.iload_n 0, 1) := by decide +kernel
theorem d_I_numberOfTrailingZeros_13 : decode c_I_numberOfTrailingZeros 13 = .ok (.bipush 32, 2) := by decide +kernel
theorem d_I_numberOfTrailingZeros_15 : decode c_I_numberOfTrailingZeros 15 = .ok (.iand, 1) := by decide +kernel
theorem d_I_numberOfTrailingZeros_16 : decode c_I_numberOfTrailingZeros 16 = .ok (.ireturn, 1) := by decide +kernel
theorem d_I_numberOfTrailingZeros_17 : decode c_I_numberOfTrailingZeros 17 = .ok (.iconst 1, 1) := by decide +kernel
theorem d_I_numberOfTrailingZeros_18 : decode c_I_numberOfTrailingZeros 18 = .ok (.istore_n 1, 1) := by decide +kernel
theorem d_I_numberOfTrailingZeros_19 : decode c_I_numberOfTrailingZeros 19 = .ok (.iload_n 0, 1) := by decide +kernel
theorem d_I_numberOfTrailingZeros_20 : decode c_I_numberOfTrailingZeros 20 = .ok (.ldc_w 264, 3) := by decide +kernel
theorem d_I_numberOfTrailingZeros_23 : decode c_I_numberOfTrailingZeros 23 = .ok (.if_icmp .le 11, 3) := by decide +kernel
theorem d_I_numberOfTrailingZeros_26 : decode c_I_numberOfTrailingZeros 26 = .ok (.iinc 1 16, 3) := by decide +kernel
theorem d_I_numberOfTrailingZeros_29 : decode c_I_numberOfTrailingZeros 29 = .ok (.iload_n 0, 1) := by decide +kernel
theorem d_I_numberOfTrailingZeros_30 : decode c_I_numberOfTrailingZeros 30 = .ok (.bipush 16, 2) := by decide +kernel
theorem d_I_numberOfTrailingZeros_32 : decode c_I_numberOfTrailingZeros 32 = .ok (.iushr, 1) := by decide +kernel
theorem d_I_numberOfTrailingZeros_33 : decode c_I_numberOfTrailingZeros 33 = .ok (.istore_n 0, 1) := by decide +kernel
theorem d_I_numberOfTrailingZeros_34 : decode c_I_numberOfTrailingZeros 34 = .ok (.iload_n 0, 1) := by decide +kernel
theorem d_I_numberOfTrailingZeros_35 : decode c_I_numberOfTrailingZeros 35 = .ok (.sipush 256, 3) := by decide +kernel
theorem d_I_numberOfTrailingZeros_38 : decode c_I_numberOfTrailingZeros 38 = .ok (.if_icmp .le 11, 3) := by decide +kernel
theorem d_I_numberOfTrailingZeros_41 : decode c_I_numberOfTrailingZeros 41 = .ok (.iinc 1 8, 3) := by decide +kernel
theorem d_I_numberOfTrailingZeros_44 : decode c_I_numberOfTrailingZeros 44 = .ok (.iload_n 0, 1) := by decide +kernel
theorem d_I_numberOfTrailingZeros_45 : decode c_I_numberOfTrailingZeros 45 = .ok (.bipush 8, 2) := by decide +kernel
theorem d_I_numberOfTrailingZeros_47 : decode c_I_numberOfTrailingZeros 47 = .ok (.iushr, 1) := by decide +kernel
theorem d_I_numberOfTrailingZeros_48 : decode c_I_numberOfTrailingZeros 48 = .ok (.istore_n 0, 1) := by decide +kernel
theorem d_I_numberOfTrailingZeros_49 : decode c_I_numberOfTrailingZeros 49 = .ok (.iload_n 0, 1) := by decide +kernel
theorem d_I_numberOfTrailingZeros_50 : decode c_I_numberOfTrailingZeros 50 = .ok (.bipush 16, 2) := by decide +kernel
theorem d_I_numberOfTrailingZeros_52 : decode c_I_numberOfTrailingZeros 52 = .ok (.if_icmp .le 10, 3) := by decide +kernel
theorem d_I_numberOfTrailingZeros_55 : decode c_I_numberOfTrailingZeros 55 = .ok (.iinc 1 4, 3) := by decide +kernel
theorem d_I_numberOfTrailingZeros_58 : decode c_I_numberOfTrailingZeros 58 = .ok (.iload_n 0, 1) := by decide +kernel
theorem d_I_numberOfTrailingZeros_59 : decode c_I_numberOfTrailingZeros 59 = .ok (.iconst 4, 1) := by decide +kernel
theorem d_I_numberOfTrailingZeros_60 : decode c_I_numberOfTrailingZeros 60 = .ok (.iushr, 1) := by decide +kernel
theorem d_I_numberOfTrailingZeros_61 : decode c_I_numberOfTrailingZeros 61 = .ok (.istore_n 0, 1) := by decide +kernel
theorem d_I_numberOfTrailingZeros_62 : decode c_I_numberOfTrailingZeros 62 = .ok (.iload_n 0, 1) := by decide +kernel
theorem d_I_numberOfTrailingZeros_63 : decode c_I_numberOfTrailingZeros 63 = .ok (.iconst 4, 1) := by decide +kernel
theorem d_I_numberOfTrailingZeros_64 : decode c_I_numberOfTrailingZeros 64 = .ok (.if_icmp .le 10, 3) := by decide +kernel
theorem d_I_numberOfTrailingZeros_67 : decode c_I_numberOfTrailingZeros 67 = .ok (.iinc 1 2, 3) := by decide +kernel
theorem d_I_numberOfTrailingZeros_70 : decode c_I_numberOfTrailingZeros 70 = .ok (.iload_n 0, 1) := by decide +kernel
theorem d_I_numberOfTrailingZeros_71 : decode c_I_numberOfTrailingZeros 71 = .ok (.iconst 2, 1) := by decide +kernel
theorem d_I_numberOfTrailingZeros_72 : decode c_I_numberOfTrailingZeros 72 = .ok (.iushr, 1) := by decide +kernel
theorem d_I_numberOfTrailingZeros_73 : decode c_I_numberOfTrailingZeros 73 = .ok (.istore_n 0, 1) := by decide +kernel
theorem d_I_numberOfTrailingZeros_74 : decode c_I_numberOfTrailingZeros 74 = .ok (.iload_n 1, 1) := by decide +kernel
theorem d_I_numberOfTrailingZeros_75 : decode c_I_numberOfTrailingZeros 75 = .ok (.iload_n 0, 1) := by decide +kernel
theorem d_I_numberOfTrailingZeros_76 : decode c_I_numberOfTrailingZeros 76 = .ok (.iconst 1, 1) := by decide +kernel
theorem d_I_numberOfTrailingZeros_77 : decode c_I_numberOfTrailingZeros 77 = .ok (.iushr, 1) := by decide +kernel
theorem d_I_numberOfTrailingZeros_78 : decode c_I_numberOfTrailingZeros 78 = .ok (.iadd, 1) := by decide +kernel
theorem d_I_numberOfTrailingZeros_79 : decode c_I_numberOfTrailingZeros 79 = .ok (.ireturn, 1) := by decide +kernel
theorem d_J_numberOfTrailingZeros_0 : decode c_J_numberOfTrailingZeros 0 = .ok (.lload_n 0, 1) := by decide +kernel
theorem d_J_numberOfTrailingZeros_1 : decode c_J_numberOfTrailingZeros 1 = .ok (.l2i, 1) := by decide +kernel
theorem d_J_numberOfTrailingZeros_2 : decode c_J_numberOfTrailingZeros 2 = .ok (.istore_n 2, 1) := by decide +kernel
theorem d_J_numberOfTrailingZeros_3 : decode c_J_numberOfTrailingZeros 3 = .ok (.iload_n 2, 1) := by decide +kernel
theorem d_J_numberOfTrailingZeros_4 : decode c_J_numberOfTrailingZeros 4 = .ok (.ifCond .ne 17, 3) := by decide +kernel
theorem d_J_numberOfTrailingZeros_7 : decode c_J_numberOfTrailingZeros 7 = .ok (.bipush 32, 2) := by decide +kernel
theorem d_J_numberOfTrailingZeros_9 : decode c_J_numberOfTrailingZeros 9 = .ok (.lload_n 0, 1) := by decide +kernel
theorem d_J_numberOfTrailingZeros_10 : decode c_J_numberOfTrailingZeros 10 = .ok (.bipush 32, 2) := by decide +kernel
theorem d_J_numberOfTrailingZeros_12 : decode c_J_numberOfTrailingZeros 12 = .ok (.lushr, 1) := by decide +kernel
theorem d_J_numberOfTrailingZeros_13 : decode c_J_numberOfTrailingZeros 13 = .ok (.l2i, 1) := by decide +kernel
theorem d_J_numberOfTrailingZeros_14 : decode c_J_numberOfTrailingZeros 14 = .ok (.invokestatic 311, 3) := by decide +kernel
theorem d_J_numberOfTrailingZeros_17 : decode c_J_numberOfTrailingZeros 17 = .ok (.iadd, 1) := by decide +kernel
theorem d_J_numberOfTrailingZeros_18 : decode c_J_numberOfTrailingZeros 18 = .ok (.goto 7, 3) := by decide +kernel
theorem d_J_numberOfTrailingZeros_21 : decode c_J_numberOfTrailingZeros 21 = .ok (.iload_n 2, 1) := by decide +kernel
theorem d_J_numberOfTrailingZeros_22 : decode c_J_numberOfTrailingZeros 22 = .ok (.invokestatic 311, 3) := by decide +kernel
theorem d_J_numberOfTrailingZeros_25 : decode c_J_numberOfTrailingZeros 25 = .ok (.ireturn, 1) := by decide +kernel
